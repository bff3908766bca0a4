section WK
variable {p : Program} {l : Launch} {e : Env} {s : State} {m : MethodId} {args : Array Value} {below : List Frame} {meth : Method} {c : Code} {D : va_G} {aK : Nat → ClassId} {a0 : Nat → Nat}
def fR_search_81 (K14 : Int → Int → Int → Int → Int → Mm → Option (Int × Mm)) (y1 y2 y3 y5 y6 y7 z0 : Int) (M : Mm) : Option (Int × Mm) :=
  mlt y7 y2
    (K14 y1 y2 (y6 + 1) z0 y5 M)
    (K14 y1 y2 y3 z0 y5 M)
def fR_search_66 (K14 : Int → Int → Int → Int → Int → Mm → Option (Int × Mm)) (y1 y2 y3 y4 y6 y7 z0 : Int) (M : Mm) : Option (Int × Mm) :=
  mlt y2 y7
    (fR_search_81 K14 y1 y2 y3 z0 y6 y7 y6 M)
    (fR_search_81 K14 y1 y2 y3 z0 y6 y7 y4 M)
def fR_search_14 : Nat → Int → Int → Int → Int → Int → Mm → Option (Int × Mm)
  | 0, _, _, _, _, _, _ => none
  | n+1, y1, y2, y3, y4, y5, M =>
    meq y5 (-1)
      (mlt y3 y4
        (mdiv (y3 + y4) 2 fun v4 =>
        mcn (fR_byteOf y1 (3 * v4) M) fun v6 M5 =>
        meq v6 y2
          (mcn (fR_byteOf y1 ((3 * v4) + 1) M5) fun v8 M7 =>
          fR_search_66 (fR_search_14 n) y1 y2 y3 y4 v4 v6 v8 M7)
          (fR_search_66 (fR_search_14 n) y1 y2 y3 y4 v4 v6 (-1) M5))
        (some (y5, M)))
      (some (y5, M))
def fR_search (x1 : Int) (x2 : Int) (M : Mm) : Option (Int × Mm) :=
  mcn (fR_size x1 M) fun v2 M1 =>
  mdiv v2 3 fun v3 =>
  fR_search_14 FU x1 x2 0 v3 (-1) M1
set_option maxRecDepth 10000 in
theorem wR_search_81 {v0 : Int} {M9 : Mm} (X : Cy p l e (rmn 2 45) s m args below meth c D aK TR mvR false a0 "PackedImageModel" cR_search 8 (some .int) (0, v0, M9)) {K14 : Int → Int → Int → Int → Int → Mm → Option (Int × Mm)} (hK14 : ∀ (y1 : Int) (y2 : Int) (y3 : Int) (y4 : Int) (y5 : Int) (M : Mm), K14 y1 y2 y3 y4 y5 M = some (v0, M9) → Wm X 14 [some (.inr 0), some (.inl y1), some (.inl y2), some (.inl y3), some (.inl y4), some (.inl y5), none, none] [] M) : ∀ (y1 : Int) (y2 : Int) (y3 : Int) (y5 : Int) (y6 : Int) (y7 : Int) (z0 : Int) (M : Mm), fR_search_81 K14 y1 y2 y3 y5 y6 y7 z0 M = some (v0, M9) → Wm X 81 [some (.inr 0), some (.inl y1), some (.inl y2), some (.inl y3), none, some (.inl y5), some (.inl y6), some (.inl y7)] [.inl z0] M := by
  intro y1 y2 y3 y5 y6 y7 z0 M hf
  unfold fR_search_81 at hf
  refine x_istore dR_search_81 (by decide) ?_
  refine x_iload dR_search_83 rfl ?_
  refine x_iloadn dR_search_85 rfl ?_
  refine x_ge hf dR_search_86 rfl (fun hf => ?_) (fun hf => ?_)
  · refine x_iloadn dR_search_96 rfl ?_
    refine x_istoren dR_search_97 (by decide) ?_
    refine x_goto (tgt := 14) dR_search_98 rfl ?_
    exact x_mask [true, true, true, true, true, true, false, false] (hK14 _ _ _ _ _ _ hf)
  · refine x_iload dR_search_89 rfl ?_
    refine x_iconst dR_search_91 ?_
    refine x_iadd dR_search_92 ?_
    refine x_goto (tgt := 97) dR_search_93 rfl ?_
    refine x_istoren dR_search_97 (by decide) ?_
    refine x_goto (tgt := 14) dR_search_98 rfl ?_
    exact x_mask [true, true, true, true, true, true, false, false] (hK14 _ _ _ _ _ _ hf)
set_option maxRecDepth 10000 in
theorem wR_search_66 {v0 : Int} {M9 : Mm} (X : Cy p l e (rmn 2 45) s m args below meth c D aK TR mvR false a0 "PackedImageModel" cR_search 8 (some .int) (0, v0, M9)) {K14 : Int → Int → Int → Int → Int → Mm → Option (Int × Mm)} (hK14 : ∀ (y1 : Int) (y2 : Int) (y3 : Int) (y4 : Int) (y5 : Int) (M : Mm), K14 y1 y2 y3 y4 y5 M = some (v0, M9) → Wm X 14 [some (.inr 0), some (.inl y1), some (.inl y2), some (.inl y3), some (.inl y4), some (.inl y5), none, none] [] M) : ∀ (y1 : Int) (y2 : Int) (y3 : Int) (y4 : Int) (y6 : Int) (y7 : Int) (z0 : Int) (M : Mm), fR_search_66 K14 y1 y2 y3 y4 y6 y7 z0 M = some (v0, M9) → Wm X 66 [some (.inr 0), some (.inl y1), some (.inl y2), some (.inl y3), some (.inl y4), none, some (.inl y6), some (.inl y7)] [.inl z0] M := by
  intro y1 y2 y3 y4 y6 y7 z0 M hf
  unfold fR_search_66 at hf
  refine x_istore dR_search_66 (by decide) ?_
  refine x_iload dR_search_68 rfl ?_
  refine x_iloadn dR_search_70 rfl ?_
  refine x_le hf dR_search_71 rfl (fun hf => ?_) (fun hf => ?_)
  · refine x_iload dR_search_79 rfl ?_
    exact x_mask [true, true, true, true, false, true, true, true] (wR_search_81 X hK14 _ _ _ _ _ _ _ _ hf)
  · refine x_iload dR_search_74 rfl ?_
    refine x_goto (tgt := 81) dR_search_76 rfl ?_
    exact x_mask [true, true, true, true, false, true, true, true] (wR_search_81 X hK14 _ _ _ _ _ _ _ _ hf)
set_option maxRecDepth 10000 in
theorem wR_search_14 {v0 : Int} {M9 : Mm} (X : Cy p l e (rmn 2 45) s m args below meth c D aK TR mvR false a0 "PackedImageModel" cR_search 8 (some .int) (0, v0, M9)) : ∀ (n : Nat) (y1 : Int) (y2 : Int) (y3 : Int) (y4 : Int) (y5 : Int) (M : Mm), fR_search_14 n y1 y2 y3 y4 y5 M = some (v0, M9) → Wm X 14 [some (.inr 0), some (.inl y1), some (.inl y2), some (.inl y3), some (.inl y4), some (.inl y5), none, none] [] M := by
  intro n
  induction n with
  | zero => intro y1 y2 y3 y4 y5 M hf; exact nomatch (show (none : Option (Int × Mm)) = _ from hf)
  | succ n ih =>
    intro y1 y2 y3 y4 y5 M hf
    rw [fR_search_14] at hf
    refine x_iload dR_search_14 rfl ?_
    refine x_iconst dR_search_16 ?_
    refine x_ne hf dR_search_17 rfl (fun hf => ?_) (fun hf => ?_)
    · refine x_iload dR_search_101 rfl ?_
      exact x_iret (rt_n hf) rfl dR_search_103
    · refine x_iloadn dR_search_20 rfl ?_
      refine x_iload dR_search_21 rfl ?_
      refine x_ge hf dR_search_23 rfl (fun hf => ?_) (fun hf => ?_)
      · refine x_iload dR_search_101 rfl ?_
        exact x_iret (rt_n hf) rfl dR_search_103
      · refine x_iloadn dR_search_26 rfl ?_
        refine x_iload dR_search_27 rfl ?_
        refine x_iadd dR_search_29 ?_
        refine x_iconst dR_search_30 ?_
        refine x_idiv hf dR_search_31 (fun v4 hf => ?_)
        refine x_istore dR_search_32 (by decide) ?_
        refine x_aloadn dR_search_34 rfl ?_
        refine x_iloadn dR_search_35 rfl ?_
        refine x_iconst dR_search_36 ?_
        refine x_iload dR_search_37 rfl ?_
        refine x_imul dR_search_39 ?_
        refine x_cvni hf (kR_byteOf X.hst) iR_byteOf lR_189 tR_0 rfl rfl (by decide) (Nat.le_of_ble_eq_true rfl) dR_search_40 (fun v6 M5 hf => ?_)
        refine x_istore dR_search_43 (by decide) ?_
        refine x_iload dR_search_45 rfl ?_
        refine x_iloadn dR_search_47 rfl ?_
        refine x_ne hf dR_search_48 rfl (fun hf => ?_) (fun hf => ?_)
        · refine x_iconst dR_search_65 ?_
          exact x_mask [true, true, true, true, true, false, true, true] (wR_search_66 X ih _ _ _ _ _ _ _ _ hf)
        · refine x_aloadn dR_search_51 rfl ?_
          refine x_iloadn dR_search_52 rfl ?_
          refine x_iconst dR_search_53 ?_
          refine x_iload dR_search_54 rfl ?_
          refine x_imul dR_search_56 ?_
          refine x_iconst dR_search_57 ?_
          refine x_iadd dR_search_58 ?_
          refine x_cvni hf (kR_byteOf X.hst) iR_byteOf lR_189 tR_0 rfl rfl (by decide) (Nat.le_of_ble_eq_true rfl) dR_search_59 (fun v8 M7 hf => ?_)
          refine x_goto (tgt := 66) dR_search_62 rfl ?_
          exact x_mask [true, true, true, true, true, false, true, true] (wR_search_66 X ih _ _ _ _ _ _ _ _ hf)
set_option maxRecDepth 10000 in
theorem wR_search {v0 : Int} {M9 : Mm} (X : Cy p l e (rmn 2 45) s m args below meth c D aK TR mvR false a0 "PackedImageModel" cR_search 8 (some .int) (0, v0, M9)) {x1 : Int} {x2 : Int} {M : Mm} (hf : fR_search x1 x2 M = some (v0, M9)) : Wm X 0 [some (.inr 0), some (.inl x1), some (.inl x2), none, none, none, none, none] [] M := by
  unfold fR_search at hf
  refine x_iconst dR_search_0 ?_
  refine x_istoren dR_search_1 (by decide) ?_
  refine x_aloadn dR_search_2 rfl ?_
  refine x_iloadn dR_search_3 rfl ?_
  refine x_cvni hf (kR_size X.hst) iR_size lR_162 tR_0 rfl rfl (by decide) (Nat.le_of_ble_eq_true rfl) dR_search_4 (fun v2 M1 hf => ?_)
  refine x_iconst dR_search_7 ?_
  refine x_idiv hf dR_search_8 (fun v3 hf => ?_)
  refine x_istore dR_search_9 (by decide) ?_
  refine x_iconst dR_search_11 ?_
  refine x_istore dR_search_12 (by decide) ?_
  exact x_mask [true, true, true, true, true, true, false, false] (wR_search_14 X FU _ _ _ _ _ _ hf)
theorem kR_search {l : Launch} (hl : l.stackTraces = false) {x1 : Int} {x2 : Int} {M : Mm} (v0 : Int) (M9 : Mm) (hf : fR_search x1 x2 M = some (v0, M9)) : Ct l yR_search (rmn 2 45) TR mvR false (some .int) [.inr 0, .inl x1, .inl x2] M (0, v0, M9) := ct_of hl (by decide) iR_search.1 (Nat.le_of_ble_eq_true rfl) (fun X => wR_search X hf)
def fR_find_50 (y1 y2 z1 : Int) (M : Mm) : Option (Int × Mm) :=
  mput M 0 0 z1 fun M7 =>
  mlt 0 (M7 0 0)
    (some (0, M7))
    (mcn (fR_search y1 y2 M7) fun v9 M8 =>
    some (v9, M8))
def fR_find (x1 : Int) (x2 : Int) (M : Mm) : Option (Int × Mm) :=
  meq (M 0 17) 0
    (fR_find_50 x1 x2 1 M)
    (mcn (fR_isInode x1 M) fun v2 M1 =>
    meq v2 0
      (fR_find_50 x1 x2 2 M1)
      (mcn (fR_tag x1 1 M1) fun v4 M3 =>
      meq v4 0
        (mcn (fR_isBad x1 M3) fun v6 M5 =>
        meq v6 0
          (fR_find_50 x1 x2 0 M5)
          (fR_find_50 x1 x2 1 M5))
        (fR_find_50 x1 x2 3 M3)))
set_option maxRecDepth 10000 in
theorem wR_find_50 {v0 : Int} {M9 : Mm} (X : Cy p l e (rmn 4 93) s m args below meth c D aK TR mvR false a0 "PackedImageModel" cR_find 3 (some .int) (0, v0, M9)) : ∀ (y1 : Int) (y2 : Int) (z1 : Int) (M : Mm), fR_find_50 y1 y2 z1 M = some (v0, M9) → Wm X 50 [some (.inr 0), some (.inl y1), some (.inl y2)] [.inl z1, .inr 0] M := by
  intro y1 y2 z1 M hf
  unfold fR_find_50 at hf
  refine x_put hf gR_69 pR_0 tR_0 rfl dR_find_50 (fun M7 hf => ?_)
  refine x_aloadn dR_find_53 rfl ?_
  refine x_getI gR_69 tR_0 rfl dR_find_54 ?_
  refine x_le0 hf dR_find_57 rfl (fun hf => ?_) (fun hf => ?_)
  · refine x_aloadn dR_find_64 rfl ?_
    refine x_iloadn dR_find_65 rfl ?_
    refine x_iloadn dR_find_66 rfl ?_
    refine x_cvni hf (kR_search X.hst) iR_search lR_192 tR_0 rfl rfl (by decide) (Nat.le_of_ble_eq_true rfl) dR_find_67 (fun v9 M8 hf => ?_)
    exact x_iret (rt_n hf) rfl dR_find_70
  · refine x_iconst dR_find_60 ?_
    refine x_goto (tgt := 70) dR_find_61 rfl ?_
    exact x_iret (rt_n hf) rfl dR_find_70
set_option maxRecDepth 10000 in
theorem wR_find {v0 : Int} {M9 : Mm} (X : Cy p l e (rmn 4 93) s m args below meth c D aK TR mvR false a0 "PackedImageModel" cR_find 3 (some .int) (0, v0, M9)) {x1 : Int} {x2 : Int} {M : Mm} (hf : fR_find x1 x2 M = some (v0, M9)) : Wm X 0 [some (.inr 0), some (.inl x1), some (.inl x2)] [] M := by
  unfold fR_find at hf
  refine x_aloadn dR_find_0 rfl ?_
  refine x_aloadn dR_find_1 rfl ?_
  refine x_getI gR_132 tR_0 rfl dR_find_2 ?_
  refine x_ne0 hf dR_find_5 rfl (fun hf => ?_) (fun hf => ?_)
  · refine x_aloadn dR_find_12 rfl ?_
    refine x_iloadn dR_find_13 rfl ?_
    refine x_cvni hf (kR_isInode X.hst) iR_isInode lR_174 tR_0 rfl rfl (by decide) (Nat.le_of_ble_eq_true rfl) dR_find_14 (fun v2 M1 hf => ?_)
    refine x_ne0 hf dR_find_17 rfl (fun hf => ?_) (fun hf => ?_)
    · refine x_aloadn dR_find_24 rfl ?_
      refine x_iloadn dR_find_25 rfl ?_
      refine x_iconst dR_find_26 ?_
      refine x_cvni hf (kR_tag X.hst) iR_tag lR_165 tR_0 rfl rfl (by decide) (Nat.le_of_ble_eq_true rfl) dR_find_27 (fun v4 M3 hf => ?_)
      refine x_eq0 hf dR_find_30 rfl (fun hf => ?_) (fun hf => ?_)
      · refine x_aloadn dR_find_37 rfl ?_
        refine x_iloadn dR_find_38 rfl ?_
        refine x_cvni hf (kR_isBad X.hst) iR_isBad lR_177 tR_0 rfl rfl (by decide) (Nat.le_of_ble_eq_true rfl) dR_find_39 (fun v6 M5 hf => ?_)
        refine x_eq0 hf dR_find_42 rfl (fun hf => ?_) (fun hf => ?_)
        · refine x_iconst dR_find_49 ?_
          exact x_mask [true, true, true] (wR_find_50 X _ _ _ _ hf)
        · refine x_iconst dR_find_45 ?_
          refine x_goto (tgt := 50) dR_find_46 rfl ?_
          exact x_mask [true, true, true] (wR_find_50 X _ _ _ _ hf)
      · refine x_iconst dR_find_33 ?_
        refine x_goto (tgt := 50) dR_find_34 rfl ?_
        exact x_mask [true, true, true] (wR_find_50 X _ _ _ _ hf)
    · refine x_iconst dR_find_20 ?_
      refine x_goto (tgt := 50) dR_find_21 rfl ?_
      exact x_mask [true, true, true] (wR_find_50 X _ _ _ _ hf)
  · refine x_iconst dR_find_8 ?_
    refine x_goto (tgt := 50) dR_find_9 rfl ?_
    exact x_mask [true, true, true] (wR_find_50 X _ _ _ _ hf)
theorem kR_find {l : Launch} (hl : l.stackTraces = false) {x1 : Int} {x2 : Int} {M : Mm} (v0 : Int) (M9 : Mm) (hf : fR_find x1 x2 M = some (v0, M9)) : Ct l yR_find (rmn 4 93) TR mvR false (some .int) [.inr 0, .inl x1, .inl x2] M (0, v0, M9) := ct_of hl (by decide) iR_find.1 (Nat.le_of_ble_eq_true rfl) (fun X => wR_find X hf)
def fR_push (x1 : Int) (M : Mm) : Option (Int × Mm) :=
  mwr M 18 24 (M 0 27) x1 fun M1 =>
  mput M1 0 27 ((M1 0 27) + 1) fun M2 =>
  some (0, M2)
set_option maxRecDepth 10000 in
theorem wR_push {v0 : Int} {M9 : Mm} (X : Cy p l e (rmn 0 0) s m args below meth c D aK TR mvR false a0 "PackedImageModel" cR_push 2 none (0, v0, M9)) {x1 : Int} {M : Mm} (hf : fR_push x1 M = some (v0, M9)) : Wm X 0 [some (.inr 0), some (.inl x1)] [] M := by
  unfold fR_push at hf
  refine x_aloadn dR_push_0 rfl ?_
  refine x_getR gR_66 tR_0 rfl dR_push_1 ?_
  refine x_aloadn dR_push_4 rfl ?_
  refine x_getI gR_195 tR_0 rfl dR_push_5 ?_
  refine x_iloadn dR_push_8 rfl ?_
  refine x_iast hf tR_18 (by decide) dR_push_9 (fun M1 hf => ?_)
  refine x_aloadn dR_push_10 rfl ?_
  refine x_dup dR_push_11 ?_
  refine x_getI gR_195 tR_0 rfl dR_push_12 ?_
  refine x_iconst dR_push_15 ?_
  refine x_iadd dR_push_16 ?_
  refine x_put hf gR_195 pR_27 tR_0 rfl dR_push_17 (fun M2 hf => ?_)
  exact x_vret ⟨_, rt_n hf⟩ rfl dR_push_20
theorem kR_push {l : Launch} (hl : l.stackTraces = false) {x1 : Int} {M : Mm} (v0 : Int) (M9 : Mm) (hf : fR_push x1 M = some (v0, M9)) : Ct l yR_push (rmn 0 0) TR mvR false none [.inr 0, .inl x1] M (0, v0, M9) := ct_of hl (by decide) iR_push.1 (Nat.le_of_ble_eq_true rfl) (fun X => wR_push X hf)
def fR_isSound (x1 : Int) (M : Mm) : Option (Int × Mm) :=
  mcn (fR_isInode x1 M) fun v2 M1 =>
  meq v2 0
    (some (0, M1))
    (mcn (fR_isBad x1 M1) fun v4 M3 =>
    meq v4 0
      (some (1, M3))
      (some (0, M3)))
set_option maxRecDepth 10000 in
theorem wR_isSound {v0 : Int} {M9 : Mm} (X : Cy p l e (rmn 4 93) s m args below meth c D aK TR mvR false a0 "PackedImageModel" cR_isSound 2 (some .boolean) (0, v0, M9)) {x1 : Int} {M : Mm} (hf : fR_isSound x1 M = some (v0, M9)) : Wm X 0 [some (.inr 0), some (.inl x1)] [] M := by
  unfold fR_isSound at hf
  refine x_aloadn dR_isSound_0 rfl ?_
  refine x_iloadn dR_isSound_1 rfl ?_
  refine x_cvni hf (kR_isInode X.hst) iR_isInode lR_174 tR_0 rfl rfl (by decide) (Nat.le_of_ble_eq_true rfl) dR_isSound_2 (fun v2 M1 hf => ?_)
  refine x_eq0 hf dR_isSound_5 rfl (fun hf => ?_) (fun hf => ?_)
  · refine x_iconst dR_isSound_20 ?_
    exact x_zret (rt_n hf) (by decide) rfl dR_isSound_21
  · refine x_aloadn dR_isSound_8 rfl ?_
    refine x_iloadn dR_isSound_9 rfl ?_
    refine x_cvni hf (kR_isBad X.hst) iR_isBad lR_177 tR_0 rfl rfl (by decide) (Nat.le_of_ble_eq_true rfl) dR_isSound_10 (fun v4 M3 hf => ?_)
    refine x_ne0 hf dR_isSound_13 rfl (fun hf => ?_) (fun hf => ?_)
    · refine x_iconst dR_isSound_20 ?_
      exact x_zret (rt_n hf) (by decide) rfl dR_isSound_21
    · refine x_iconst dR_isSound_16 ?_
      refine x_goto (tgt := 21) dR_isSound_17 rfl ?_
      exact x_zret (rt_n hf) (by decide) rfl dR_isSound_21
theorem kR_isSound {l : Launch} (hl : l.stackTraces = false) {x1 : Int} {M : Mm} (v0 : Int) (M9 : Mm) (hf : fR_isSound x1 M = some (v0, M9)) : Ct l yR_isSound (rmn 4 93) TR mvR false (some .boolean) [.inr 0, .inl x1] M (0, v0, M9) := ct_of hl (by decide) iR_isSound.1 (Nat.le_of_ble_eq_true rfl) (fun X => wR_isSound X hf)
def fR_resolve_270 (y3 : Int) (M : Mm) : Option (Int × Mm) :=
  mlt 0 (M 0 0)
    (some (0, M))
    (some (y3, M))
def fR_resolve_249 (K97 : Int → Int → Mm → Option (Int × Mm)) (y4 y5 : Int) (M : Mm) : Option (Int × Mm) :=
  mlt y4 5
    (mlt y5 5
      (K97 0 y4 M)
      (K97 (-1) y4 M))
    (K97 (-1) y4 M)
def fR_resolve_215 (K97 : Int → Int → Mm → Option (Int × Mm)) : Nat → Int → Int → Int → Int → Mm → Option (Int × Mm)
  | 0, _, _, _, _, _ => none
  | n+1, y3, y4, y5, y6, M =>
    mlt y4 5
      (mlt y5 5
        (mlt y6 0
          (fR_resolve_249 K97 y4 y5 M)
          (mcn (fR_byteOf y3 y6 M) fun v14 M13 =>
          mcn (fR_push v14 M13) fun _ M15 =>
          (fR_resolve_215 K97 n) y3 y4 y5 (y6 + (-1)) M15))
        (fR_resolve_249 K97 y4 y5 M))
      (fR_resolve_249 K97 y4 y5 M)
def fR_resolve_176 (K97 : Int → Int → Mm → Option (Int × Mm)) (y3 y4 z1 : Int) (M : Mm) : Option (Int × Mm) :=
  mput M 0 0 z1 fun M8 =>
  mlt 0 (M8 0 0)
    (K97 y3 y4 M8)
    (mcn (fR_tag y3 1 M8) fun v10 M9 =>
    meq v10 2
      (mcn (fR_size y3 M9) fun v12 M11 =>
      fR_resolve_215 K97 FU y3 (y4 + 1) v12 (v12 - 1) M11)
      (K97 y3 y4 M9))
def fR_resolve_153 (K97 : Int → Int → Mm → Option (Int × Mm)) (y4 z0 : Int) (M : Mm) : Option (Int × Mm) :=
  meq z0 (-1)
    (K97 z0 y4 M)
    (mcn (fR_isSound z0 M) fun v7 M6 =>
    meq v7 0
      (fR_resolve_176 K97 z0 y4 1 M6)
      (fR_resolve_176 K97 z0 y4 0 M6))
def fR_resolve_97 : Nat → Int → Int → Mm → Option (Int × Mm)
  | 0, _, _, _ => none
  | n+1, y3, y4, M =>
    mlt 0 (M 0 27)
      (meq y3 (-1)
        (fR_resolve_270 y3 M)
        (meq (M 0 0) 0
          (mput M 0 27 ((M 0 27) - 1) fun M3 =>
          mcn (fR_tag y3 1 M3) fun v5 M4 =>
          meq v5 0
            (mrd M4 18 24 (M4 0 27) fun v16 =>
            mcn (fR_search y3 v16 M4) fun v18 M17 =>
            fR_resolve_153 (fR_resolve_97 n) y4 v18 M17)
            (fR_resolve_153 (fR_resolve_97 n) y4 (-1) M4))
          (fR_resolve_270 y3 M)))
      (fR_resolve_270 y3 M)
def fR_resolve_68 : Nat → Int → Int → Mm → Option (Int × Mm)
  | 0, _, _, _ => none
  | n+1, y1, y3, M =>
    mlt y3 0
      (fR_resolve_97 FU 0 0 M)
      (mshr y1 (8 * y3) fun v19 =>
      mcn (fR_push (v19 % 256) M) fun _ M20 =>
      (fR_resolve_68 n) y1 (y3 + (-1)) M20)
def fR_resolve_59 (y1 y2 : Int) (M : Mm) : Option (Int × Mm) :=
  mput M 0 27 0 fun M2 =>
  fR_resolve_68 FU y1 (y2 - 1) M2
def fR_resolve_35 : Nat → Int → Int → Mm → Option (Int × Mm)
  | 0, _, _, _ => none
  | n+1, y1, y2, M =>
    mlt y2 4
      (mshr y1 (8 * y2) fun v21 =>
      mlt 0 (v21 % 256)
        ((fR_resolve_35 n) y1 (y2 + 1) M)
        (fR_resolve_59 y1 y2 M))
      (fR_resolve_59 y1 y2 M)
def fR_resolve_21 (y1 z1 : Int) (M : Mm) : Option (Int × Mm) :=
  mput M 0 0 z1 fun M1 =>
  mlt 0 (M1 0 0)
    (some (0, M1))
    (fR_resolve_35 FU y1 0 M1)
def fR_resolve_20 (y1 : Int) (M : Mm) : Option (Int × Mm) :=
  fR_resolve_21 y1 1 M
def fR_resolve (x1 : Int) (M : Mm) : Option (Int × Mm) :=
  meq (M 0 17) 0
    (fR_resolve_20 x1 M)
    (mcn (fR_isSound 0 M) fun v23 M22 =>
    meq v23 0
      (fR_resolve_20 x1 M22)
      (fR_resolve_21 x1 0 M22))
set_option maxRecDepth 10000 in
theorem wR_resolve_270 {v0 : Int} {M9 : Mm} (X : Cy p l e (rmn 5 114) s m args below meth c D aK TR mvR false a0 "PackedImageModel" cR_resolve 7 (some .int) (0, v0, M9)) : ∀ (y3 : Int) (M : Mm), fR_resolve_270 y3 M = some (v0, M9) → Wm X 270 [some (.inr 0), none, none, some (.inl y3), none, none, none] [] M := by
  intro y3 M hf
  unfold fR_resolve_270 at hf
  refine x_aloadn dR_resolve_270 rfl ?_
  refine x_getI gR_69 tR_0 rfl dR_resolve_271 ?_
  refine x_le0 hf dR_resolve_274 rfl (fun hf => ?_) (fun hf => ?_)
  · refine x_iloadn dR_resolve_281 rfl ?_
    exact x_iret (rt_n hf) rfl dR_resolve_282
  · refine x_iconst dR_resolve_277 ?_
    refine x_goto (tgt := 282) dR_resolve_278 rfl ?_
    exact x_iret (rt_n hf) rfl dR_resolve_282
set_option maxRecDepth 10000 in
theorem wR_resolve_249 {v0 : Int} {M9 : Mm} (X : Cy p l e (rmn 5 114) s m args below meth c D aK TR mvR false a0 "PackedImageModel" cR_resolve 7 (some .int) (0, v0, M9)) {K97 : Int → Int → Mm → Option (Int × Mm)} (hK97 : ∀ (y3 : Int) (y4 : Int) (M : Mm), K97 y3 y4 M = some (v0, M9) → Wm X 97 [some (.inr 0), none, none, some (.inl y3), some (.inl y4), none, none] [] M) : ∀ (y4 : Int) (y5 : Int) (M : Mm), fR_resolve_249 K97 y4 y5 M = some (v0, M9) → Wm X 249 [some (.inr 0), none, none, none, some (.inl y4), some (.inl y5), none] [] M := by
  intro y4 y5 M hf
  unfold fR_resolve_249 at hf
  refine x_iload dR_resolve_249 rfl ?_
  refine x_iconst dR_resolve_251 ?_
  refine x_ge hf dR_resolve_252 rfl (fun hf => ?_) (fun hf => ?_)
  · refine x_iconst dR_resolve_265 ?_
    refine x_istoren dR_resolve_266 (by decide) ?_
    refine x_goto (tgt := 97) dR_resolve_267 rfl ?_
    exact x_mask [true, false, false, true, true, false, false] (hK97 _ _ _ hf)
  · refine x_iload dR_resolve_255 rfl ?_
    refine x_iconst dR_resolve_257 ?_
    refine x_ge hf dR_resolve_258 rfl (fun hf => ?_) (fun hf => ?_)
    · refine x_iconst dR_resolve_265 ?_
      refine x_istoren dR_resolve_266 (by decide) ?_
      refine x_goto (tgt := 97) dR_resolve_267 rfl ?_
      exact x_mask [true, false, false, true, true, false, false] (hK97 _ _ _ hf)
    · refine x_iconst dR_resolve_261 ?_
      refine x_goto (tgt := 266) dR_resolve_262 rfl ?_
      refine x_istoren dR_resolve_266 (by decide) ?_
      refine x_goto (tgt := 97) dR_resolve_267 rfl ?_
      exact x_mask [true, false, false, true, true, false, false] (hK97 _ _ _ hf)
set_option maxRecDepth 10000 in
theorem wR_resolve_215 {v0 : Int} {M9 : Mm} (X : Cy p l e (rmn 5 114) s m args below meth c D aK TR mvR false a0 "PackedImageModel" cR_resolve 7 (some .int) (0, v0, M9)) {K97 : Int → Int → Mm → Option (Int × Mm)} (hK97 : ∀ (y3 : Int) (y4 : Int) (M : Mm), K97 y3 y4 M = some (v0, M9) → Wm X 97 [some (.inr 0), none, none, some (.inl y3), some (.inl y4), none, none] [] M) : ∀ (n : Nat) (y3 : Int) (y4 : Int) (y5 : Int) (y6 : Int) (M : Mm), fR_resolve_215 K97 n y3 y4 y5 y6 M = some (v0, M9) → Wm X 215 [some (.inr 0), none, none, some (.inl y3), some (.inl y4), some (.inl y5), some (.inl y6)] [] M := by
  intro n
  induction n with
  | zero => intro y3 y4 y5 y6 M hf; exact nomatch (show (none : Option (Int × Mm)) = _ from hf)
  | succ n ih =>
    intro y3 y4 y5 y6 M hf
    rw [fR_resolve_215] at hf
    refine x_iload dR_resolve_215 rfl ?_
    refine x_iconst dR_resolve_217 ?_
    refine x_ge hf dR_resolve_218 rfl (fun hf => ?_) (fun hf => ?_)
    · exact x_mask [true, false, false, false, true, true, false] (wR_resolve_249 X hK97 _ _ _ hf)
    · refine x_iload dR_resolve_221 rfl ?_
      refine x_iconst dR_resolve_223 ?_
      refine x_ge hf dR_resolve_224 rfl (fun hf => ?_) (fun hf => ?_)
      · exact x_mask [true, false, false, false, true, true, false] (wR_resolve_249 X hK97 _ _ _ hf)
      · refine x_iload dR_resolve_227 rfl ?_
        refine x_lt0 hf dR_resolve_229 rfl (fun hf => ?_) (fun hf => ?_)
        · exact x_mask [true, false, false, false, true, true, false] (wR_resolve_249 X hK97 _ _ _ hf)
        · refine x_aloadn dR_resolve_232 rfl ?_
          refine x_aloadn dR_resolve_233 rfl ?_
          refine x_iloadn dR_resolve_234 rfl ?_
          refine x_iload dR_resolve_235 rfl ?_
          refine x_cvni hf (kR_byteOf X.hst) iR_byteOf lR_189 tR_0 rfl rfl (by decide) (Nat.le_of_ble_eq_true rfl) dR_resolve_237 (fun v14 M13 hf => ?_)
          refine x_cvnv hf (kR_push X.hst) iR_push lR_201 tR_0 rfl rfl (by decide) (Nat.le_of_ble_eq_true rfl) dR_resolve_240 (fun _ M15 hf => ?_)
          refine x_iinc dR_resolve_243 rfl (by decide) ?_
          refine x_goto (tgt := 215) dR_resolve_246 rfl ?_
          exact x_mask [true, false, false, true, true, true, true] (ih _ _ _ _ _ hf)
set_option maxRecDepth 10000 in
theorem wR_resolve_176 {v0 : Int} {M9 : Mm} (X : Cy p l e (rmn 5 114) s m args below meth c D aK TR mvR false a0 "PackedImageModel" cR_resolve 7 (some .int) (0, v0, M9)) {K97 : Int → Int → Mm → Option (Int × Mm)} (hK97 : ∀ (y3 : Int) (y4 : Int) (M : Mm), K97 y3 y4 M = some (v0, M9) → Wm X 97 [some (.inr 0), none, none, some (.inl y3), some (.inl y4), none, none] [] M) : ∀ (y3 : Int) (y4 : Int) (z1 : Int) (M : Mm), fR_resolve_176 K97 y3 y4 z1 M = some (v0, M9) → Wm X 176 [some (.inr 0), none, none, some (.inl y3), some (.inl y4), none, none] [.inl z1, .inr 0] M := by
  intro y3 y4 z1 M hf
  unfold fR_resolve_176 at hf
  refine x_put hf gR_69 pR_0 tR_0 rfl dR_resolve_176 (fun M8 hf => ?_)
  refine x_aloadn dR_resolve_179 rfl ?_
  refine x_getI gR_69 tR_0 rfl dR_resolve_180 ?_
  refine x_gt0 hf dR_resolve_183 rfl (fun hf => ?_) (fun hf => ?_)
  · exact x_mask [true, false, false, true, true, false, false] (hK97 _ _ _ hf)
  · refine x_aloadn dR_resolve_186 rfl ?_
    refine x_iloadn dR_resolve_187 rfl ?_
    refine x_iconst dR_resolve_188 ?_
    refine x_cvni hf (kR_tag X.hst) iR_tag lR_165 tR_0 rfl rfl (by decide) (Nat.le_of_ble_eq_true rfl) dR_resolve_189 (fun v10 M9 hf => ?_)
    refine x_iconst dR_resolve_192 ?_
    refine x_eq hf dR_resolve_193 rfl (fun hf => ?_) (fun hf => ?_)
    · refine x_iinc dR_resolve_199 rfl (by decide) ?_
      refine x_aloadn dR_resolve_202 rfl ?_
      refine x_iloadn dR_resolve_203 rfl ?_
      refine x_cvni hf (kR_size X.hst) iR_size lR_162 tR_0 rfl rfl (by decide) (Nat.le_of_ble_eq_true rfl) dR_resolve_204 (fun v12 M11 hf => ?_)
      refine x_istore dR_resolve_207 (by decide) ?_
      refine x_iload dR_resolve_209 rfl ?_
      refine x_iconst dR_resolve_211 ?_
      refine x_isub dR_resolve_212 ?_
      refine x_istore dR_resolve_213 (by decide) ?_
      exact x_mask [true, false, false, true, true, true, true] (wR_resolve_215 X hK97 FU _ _ _ _ _ hf)
    · refine x_goto (tgt := 97) dR_resolve_196 rfl ?_
      exact x_mask [true, false, false, true, true, false, false] (hK97 _ _ _ hf)
set_option maxRecDepth 10000 in
theorem wR_resolve_153 {v0 : Int} {M9 : Mm} (X : Cy p l e (rmn 5 114) s m args below meth c D aK TR mvR false a0 "PackedImageModel" cR_resolve 7 (some .int) (0, v0, M9)) {K97 : Int → Int → Mm → Option (Int × Mm)} (hK97 : ∀ (y3 : Int) (y4 : Int) (M : Mm), K97 y3 y4 M = some (v0, M9) → Wm X 97 [some (.inr 0), none, none, some (.inl y3), some (.inl y4), none, none] [] M) : ∀ (y4 : Int) (z0 : Int) (M : Mm), fR_resolve_153 K97 y4 z0 M = some (v0, M9) → Wm X 153 [some (.inr 0), none, none, none, some (.inl y4), none, none] [.inl z0] M := by
  intro y4 z0 M hf
  unfold fR_resolve_153 at hf
  refine x_istoren dR_resolve_153 (by decide) ?_
  refine x_iloadn dR_resolve_154 rfl ?_
  refine x_iconst dR_resolve_155 ?_
  refine x_ne hf dR_resolve_156 rfl (fun hf => ?_) (fun hf => ?_)
  · refine x_aloadn dR_resolve_162 rfl ?_
    refine x_aloadn dR_resolve_163 rfl ?_
    refine x_iloadn dR_resolve_164 rfl ?_
    refine x_cvni hf (kR_isSound X.hst) iR_isSound lR_198 tR_0 rfl rfl (by decide) (Nat.le_of_ble_eq_true rfl) dR_resolve_165 (fun v7 M6 hf => ?_)
    refine x_eq0 hf dR_resolve_168 rfl (fun hf => ?_) (fun hf => ?_)
    · refine x_iconst dR_resolve_175 ?_
      exact x_mask [true, false, false, true, true, false, false] (wR_resolve_176 X hK97 _ _ _ _ hf)
    · refine x_iconst dR_resolve_171 ?_
      refine x_goto (tgt := 176) dR_resolve_172 rfl ?_
      exact x_mask [true, false, false, true, true, false, false] (wR_resolve_176 X hK97 _ _ _ _ hf)
  · refine x_goto (tgt := 97) dR_resolve_159 rfl ?_
    exact x_mask [true, false, false, true, true, false, false] (hK97 _ _ _ hf)
set_option maxRecDepth 10000 in
theorem wR_resolve_97 {v0 : Int} {M9 : Mm} (X : Cy p l e (rmn 5 114) s m args below meth c D aK TR mvR false a0 "PackedImageModel" cR_resolve 7 (some .int) (0, v0, M9)) : ∀ (n : Nat) (y3 : Int) (y4 : Int) (M : Mm), fR_resolve_97 n y3 y4 M = some (v0, M9) → Wm X 97 [some (.inr 0), none, none, some (.inl y3), some (.inl y4), none, none] [] M := by
  intro n
  induction n with
  | zero => intro y3 y4 M hf; exact nomatch (show (none : Option (Int × Mm)) = _ from hf)
  | succ n ih =>
    intro y3 y4 M hf
    rw [fR_resolve_97] at hf
    refine x_aloadn dR_resolve_97 rfl ?_
    refine x_getI gR_195 tR_0 rfl dR_resolve_98 ?_
    refine x_le0 hf dR_resolve_101 rfl (fun hf => ?_) (fun hf => ?_)
    · exact x_mask [true, false, false, true, false, false, false] (wR_resolve_270 X _ _ hf)
    · refine x_iloadn dR_resolve_104 rfl ?_
      refine x_iconst dR_resolve_105 ?_
      refine x_eq hf dR_resolve_106 rfl (fun hf => ?_) (fun hf => ?_)
      · exact x_mask [true, false, false, true, false, false, false] (wR_resolve_270 X _ _ hf)
      · refine x_aloadn dR_resolve_109 rfl ?_
        refine x_getI gR_69 tR_0 rfl dR_resolve_110 ?_
        refine x_ne0 hf dR_resolve_113 rfl (fun hf => ?_) (fun hf => ?_)
        · exact x_mask [true, false, false, true, false, false, false] (wR_resolve_270 X _ _ hf)
        · refine x_aloadn dR_resolve_116 rfl ?_
          refine x_dup dR_resolve_117 ?_
          refine x_getI gR_195 tR_0 rfl dR_resolve_118 ?_
          refine x_iconst dR_resolve_121 ?_
          refine x_isub dR_resolve_122 ?_
          refine x_put hf gR_195 pR_27 tR_0 rfl dR_resolve_123 (fun M3 hf => ?_)
          refine x_aloadn dR_resolve_126 rfl ?_
          refine x_iloadn dR_resolve_127 rfl ?_
          refine x_iconst dR_resolve_128 ?_
          refine x_cvni hf (kR_tag X.hst) iR_tag lR_165 tR_0 rfl rfl (by decide) (Nat.le_of_ble_eq_true rfl) dR_resolve_129 (fun v5 M4 hf => ?_)
          refine x_ne0 hf dR_resolve_132 rfl (fun hf => ?_) (fun hf => ?_)
          · refine x_iconst dR_resolve_152 ?_
            exact x_mask [true, false, false, false, true, false, false] (wR_resolve_153 X ih _ _ _ hf)
          · refine x_aloadn dR_resolve_135 rfl ?_
            refine x_iloadn dR_resolve_136 rfl ?_
            refine x_aloadn dR_resolve_137 rfl ?_
            refine x_getR gR_66 tR_0 rfl dR_resolve_138 ?_
            refine x_aloadn dR_resolve_141 rfl ?_
            refine x_getI gR_195 tR_0 rfl dR_resolve_142 ?_
            refine x_iald hf tR_18 (by decide) dR_resolve_145 (fun v16 hf => ?_)
            refine x_cvni hf (kR_search X.hst) iR_search lR_192 tR_0 rfl rfl (by decide) (Nat.le_of_ble_eq_true rfl) dR_resolve_146 (fun v18 M17 hf => ?_)
            refine x_goto (tgt := 153) dR_resolve_149 rfl ?_
            exact x_mask [true, false, false, false, true, false, false] (wR_resolve_153 X ih _ _ _ hf)
set_option maxRecDepth 10000 in
theorem wR_resolve_68 {v0 : Int} {M9 : Mm} (X : Cy p l e (rmn 5 114) s m args below meth c D aK TR mvR false a0 "PackedImageModel" cR_resolve 7 (some .int) (0, v0, M9)) : ∀ (n : Nat) (y1 : Int) (y3 : Int) (M : Mm), fR_resolve_68 n y1 y3 M = some (v0, M9) → Wm X 68 [some (.inr 0), some (.inl y1), none, some (.inl y3), none, none, none] [] M := by
  intro n
  induction n with
  | zero => intro y1 y3 M hf; exact nomatch (show (none : Option (Int × Mm)) = _ from hf)
  | succ n ih =>
    intro y1 y3 M hf
    rw [fR_resolve_68] at hf
    refine x_iloadn dR_resolve_68 rfl ?_
    refine x_lt0 hf dR_resolve_69 rfl (fun hf => ?_) (fun hf => ?_)
    · refine x_iconst dR_resolve_92 ?_
      refine x_istoren dR_resolve_93 (by decide) ?_
      refine x_iconst dR_resolve_94 ?_
      refine x_istore dR_resolve_95 (by decide) ?_
      exact x_mask [true, false, false, true, true, false, false] (wR_resolve_97 X FU _ _ _ hf)
    · refine x_aloadn dR_resolve_72 rfl ?_
      refine x_iloadn dR_resolve_73 rfl ?_
      refine x_bipush dR_resolve_74 (by decide) ?_
      refine x_iloadn dR_resolve_76 rfl ?_
      refine x_imul dR_resolve_77 ?_
      refine x_ishr hf dR_resolve_78 (fun v19 hf => ?_)
      refine x_sipush dR_resolve_79 (by decide) ?_
      refine x_iandm (an255 _) dR_resolve_82 ?_
      refine x_cvnv hf (kR_push X.hst) iR_push lR_201 tR_0 rfl rfl (by decide) (Nat.le_of_ble_eq_true rfl) dR_resolve_83 (fun _ M20 hf => ?_)
      refine x_iinc dR_resolve_86 rfl (by decide) ?_
      refine x_goto (tgt := 68) dR_resolve_89 rfl ?_
      exact x_mask [true, true, false, true, false, false, false] (ih _ _ _ hf)
set_option maxRecDepth 10000 in
theorem wR_resolve_59 {v0 : Int} {M9 : Mm} (X : Cy p l e (rmn 5 114) s m args below meth c D aK TR mvR false a0 "PackedImageModel" cR_resolve 7 (some .int) (0, v0, M9)) : ∀ (y1 : Int) (y2 : Int) (M : Mm), fR_resolve_59 y1 y2 M = some (v0, M9) → Wm X 59 [some (.inr 0), some (.inl y1), some (.inl y2), none, none, none, none] [] M := by
  intro y1 y2 M hf
  unfold fR_resolve_59 at hf
  refine x_aloadn dR_resolve_59 rfl ?_
  refine x_iconst dR_resolve_60 ?_
  refine x_put hf gR_195 pR_27 tR_0 rfl dR_resolve_61 (fun M2 hf => ?_)
  refine x_iloadn dR_resolve_64 rfl ?_
  refine x_iconst dR_resolve_65 ?_
  refine x_isub dR_resolve_66 ?_
  refine x_istoren dR_resolve_67 (by decide) ?_
  exact x_mask [true, true, false, true, false, false, false] (wR_resolve_68 X FU _ _ _ hf)
set_option maxRecDepth 10000 in
theorem wR_resolve_35 {v0 : Int} {M9 : Mm} (X : Cy p l e (rmn 5 114) s m args below meth c D aK TR mvR false a0 "PackedImageModel" cR_resolve 7 (some .int) (0, v0, M9)) : ∀ (n : Nat) (y1 : Int) (y2 : Int) (M : Mm), fR_resolve_35 n y1 y2 M = some (v0, M9) → Wm X 35 [some (.inr 0), some (.inl y1), some (.inl y2), none, none, none, none] [] M := by
  intro n
  induction n with
  | zero => intro y1 y2 M hf; exact nomatch (show (none : Option (Int × Mm)) = _ from hf)
  | succ n ih =>
    intro y1 y2 M hf
    rw [fR_resolve_35] at hf
    refine x_iloadn dR_resolve_35 rfl ?_
    refine x_iconst dR_resolve_36 ?_
    refine x_ge hf dR_resolve_37 rfl (fun hf => ?_) (fun hf => ?_)
    · exact x_mask [true, true, true, false, false, false, false] (wR_resolve_59 X _ _ _ hf)
    · refine x_iloadn dR_resolve_40 rfl ?_
      refine x_bipush dR_resolve_41 (by decide) ?_
      refine x_iloadn dR_resolve_43 rfl ?_
      refine x_imul dR_resolve_44 ?_
      refine x_ishr hf dR_resolve_45 (fun v21 hf => ?_)
      refine x_sipush dR_resolve_46 (by decide) ?_
      refine x_iandm (an255 _) dR_resolve_49 ?_
      refine x_le0 hf dR_resolve_50 rfl (fun hf => ?_) (fun hf => ?_)
      · exact x_mask [true, true, true, false, false, false, false] (wR_resolve_59 X _ _ _ hf)
      · refine x_iinc dR_resolve_53 rfl (by decide) ?_
        refine x_goto (tgt := 35) dR_resolve_56 rfl ?_
        exact x_mask [true, true, true, false, false, false, false] (ih _ _ _ hf)
set_option maxRecDepth 10000 in
theorem wR_resolve_21 {v0 : Int} {M9 : Mm} (X : Cy p l e (rmn 5 114) s m args below meth c D aK TR mvR false a0 "PackedImageModel" cR_resolve 7 (some .int) (0, v0, M9)) : ∀ (y1 : Int) (z1 : Int) (M : Mm), fR_resolve_21 y1 z1 M = some (v0, M9) → Wm X 21 [some (.inr 0), some (.inl y1), none, none, none, none, none] [.inl z1, .inr 0] M := by
  intro y1 z1 M hf
  unfold fR_resolve_21 at hf
  refine x_put hf gR_69 pR_0 tR_0 rfl dR_resolve_21 (fun M1 hf => ?_)
  refine x_aloadn dR_resolve_24 rfl ?_
  refine x_getI gR_69 tR_0 rfl dR_resolve_25 ?_
  refine x_le0 hf dR_resolve_28 rfl (fun hf => ?_) (fun hf => ?_)
  · refine x_iconst dR_resolve_33 ?_
    refine x_istoren dR_resolve_34 (by decide) ?_
    exact x_mask [true, true, true, false, false, false, false] (wR_resolve_35 X FU _ _ _ hf)
  · refine x_iconst dR_resolve_31 ?_
    exact x_iret (rt_n hf) rfl dR_resolve_32
set_option maxRecDepth 10000 in
theorem wR_resolve_20 {v0 : Int} {M9 : Mm} (X : Cy p l e (rmn 5 114) s m args below meth c D aK TR mvR false a0 "PackedImageModel" cR_resolve 7 (some .int) (0, v0, M9)) : ∀ (y1 : Int) (M : Mm), fR_resolve_20 y1 M = some (v0, M9) → Wm X 20 [some (.inr 0), some (.inl y1), none, none, none, none, none] [.inr 0] M := by
  intro y1 M hf
  unfold fR_resolve_20 at hf
  refine x_iconst dR_resolve_20 ?_
  exact x_mask [true, true, false, false, false, false, false] (wR_resolve_21 X _ _ _ hf)
set_option maxRecDepth 10000 in
theorem wR_resolve {v0 : Int} {M9 : Mm} (X : Cy p l e (rmn 5 114) s m args below meth c D aK TR mvR false a0 "PackedImageModel" cR_resolve 7 (some .int) (0, v0, M9)) {x1 : Int} {M : Mm} (hf : fR_resolve x1 M = some (v0, M9)) : Wm X 0 [some (.inr 0), some (.inl x1), none, none, none, none, none] [] M := by
  unfold fR_resolve at hf
  refine x_aloadn dR_resolve_0 rfl ?_
  refine x_aloadn dR_resolve_1 rfl ?_
  refine x_getI gR_132 tR_0 rfl dR_resolve_2 ?_
  refine x_eq0 hf dR_resolve_5 rfl (fun hf => ?_) (fun hf => ?_)
  · exact x_mask [true, true, false, false, false, false, false] (wR_resolve_20 X _ _ hf)
  · refine x_aloadn dR_resolve_8 rfl ?_
    refine x_iconst dR_resolve_9 ?_
    refine x_cvni hf (kR_isSound X.hst) iR_isSound lR_198 tR_0 rfl rfl (by decide) (Nat.le_of_ble_eq_true rfl) dR_resolve_10 (fun v23 M22 hf => ?_)
    refine x_eq0 hf dR_resolve_13 rfl (fun hf => ?_) (fun hf => ?_)
    · exact x_mask [true, true, false, false, false, false, false] (wR_resolve_20 X _ _ hf)
    · refine x_iconst dR_resolve_16 ?_
      refine x_goto (tgt := 21) dR_resolve_17 rfl ?_
      exact x_mask [true, true, false, false, false, false, false] (wR_resolve_21 X _ _ _ hf)
theorem kR_resolve {l : Launch} (hl : l.stackTraces = false) {x1 : Int} {M : Mm} (v0 : Int) (M9 : Mm) (hf : fR_resolve x1 M = some (v0, M9)) : Ct l yR_resolve (rmn 5 114) TR mvR false (some .int) [.inr 0, .inl x1] M (0, v0, M9) := ct_of hl (by decide) iR_resolve.1 (Nat.le_of_ble_eq_true rfl) (fun X => wR_resolve X hf)
def fR_cache (x1 : Int) (M : Mm) : Option (Int × Mm) :=
  mput M 0 0 0 fun M1 =>
  meq (M1 0 17) 0
    (some (0, M1))
    (meq x1 0
      (some ((M1 0 25), M1))
      (some ((M1 0 24), M1)))
set_option maxRecDepth 10000 in
theorem wR_cache {v0 : Int} {M9 : Mm} (X : Cy p l e (rmn 0 0) s m args below meth c D aK TR mvR false a0 "PackedImageModel" cR_cache 2 (some .int) (0, v0, M9)) {x1 : Int} {M : Mm} (hf : fR_cache x1 M = some (v0, M9)) : Wm X 0 [some (.inr 0), some (.inl x1)] [] M := by
  unfold fR_cache at hf
  refine x_aloadn dR_cache_0 rfl ?_
  refine x_iconst dR_cache_1 ?_
  refine x_put hf gR_69 pR_0 tR_0 rfl dR_cache_2 (fun M1 hf => ?_)
  refine x_aloadn dR_cache_5 rfl ?_
  refine x_getI gR_132 tR_0 rfl dR_cache_6 ?_
  refine x_ne0 hf dR_cache_9 rfl (fun hf => ?_) (fun hf => ?_)
  · refine x_iloadn dR_cache_16 rfl ?_
    refine x_eq0 hf dR_cache_17 rfl (fun hf => ?_) (fun hf => ?_)
    · refine x_aloadn dR_cache_27 rfl ?_
      refine x_getI gR_152 tR_0 rfl dR_cache_28 ?_
      exact x_iret (rt_n hf) rfl dR_cache_31
    · refine x_aloadn dR_cache_20 rfl ?_
      refine x_getI gR_149 tR_0 rfl dR_cache_21 ?_
      refine x_goto (tgt := 31) dR_cache_24 rfl ?_
      exact x_iret (rt_n hf) rfl dR_cache_31
  · refine x_iconst dR_cache_12 ?_
    refine x_goto (tgt := 31) dR_cache_13 rfl ?_
    exact x_iret (rt_n hf) rfl dR_cache_31
theorem kR_cache {l : Launch} (hl : l.stackTraces = false) {x1 : Int} {M : Mm} (v0 : Int) (M9 : Mm) (hf : fR_cache x1 M = some (v0, M9)) : Ct l yR_cache (rmn 0 0) TR mvR false (some .int) [.inr 0, .inl x1] M (0, v0, M9) := ct_of hl (by decide) iR_cache.1 (Nat.le_of_ble_eq_true rfl) (fun X => wR_cache X hf)
def fR_isWrong_142 (K64 : Int → Int → Int → Int → Mm → Option (Int × Mm)) (y1 y4 z0 : Int) (M : Mm) : Option (Int × Mm) :=
  mcn (fR_byteOf y1 y4 M) fun v12 M11 =>
  K64 y1 z0 v12 (y4 + 3) M11
def fR_isWrong_137 (K64 : Int → Int → Int → Int → Mm → Option (Int × Mm)) (y1 y4 : Int) (M : Mm) : Option (Int × Mm) :=
  fR_isWrong_142 K64 y1 y4 1 M
def fR_isWrong_64 : Nat → Int → Int → Int → Int → Mm → Option (Int × Mm)
  | 0, _, _, _, _, _ => none
  | n+1, y1, y2, y3, y4, M =>
    mcn (fR_tag y1 1 M) fun v6 M5 =>
    meq v6 0
      (mcn (fR_size y1 M5) fun v8 M7 =>
      mlt y4 v8
        (mcn (fR_byteOf y1 (y4 + 1) M7) fun v10 M9 =>
        meq y2 0
          (mcn (fR_byteOf y1 y4 M9) fun v14 M13 =>
          mlt y3 v14
            (mcn (fR_isInode v10 M13) fun v16 M15 =>
            meq v16 0
              (fR_isWrong_137 (fR_isWrong_64 n) y1 y4 M15)
              (mcn (fR_tag v10 1 M15) fun v18 M17 =>
              mcn (fR_byteOf y1 (y4 + 2) M17) fun v20 M19 =>
              meq v18 v20
                (fR_isWrong_142 (fR_isWrong_64 n) y1 y4 0 M19)
                (fR_isWrong_137 (fR_isWrong_64 n) y1 y4 M19)))
            (fR_isWrong_137 (fR_isWrong_64 n) y1 y4 M13))
          (fR_isWrong_137 (fR_isWrong_64 n) y1 y4 M9))
        (mz y2 (some (y2, M7))))
      (mz y2 (some (y2, M5)))
def fR_isWrong_14 : Nat → Int → Int → Int → Mm → Option (Int × Mm)
  | 0, _, _, _, _ => none
  | n+1, y1, y2, y3, M =>
    mcn (fR_tag y1 3 M) fun v4 M3 =>
    meq v4 2
      (mcn (fR_rest y1 0 M3) fun v22 M21 =>
      mlt y3 v22
        (meq y2 0
          (mcn (fR_unpack y1 y3 M21) fun v24 M23 =>
          meq v24 0
            ((fR_isWrong_14 n) y1 1 (y3 + 1) M23)
            ((fR_isWrong_14 n) y1 0 (y3 + 1) M23))
          ((fR_isWrong_14 n) y1 1 (y3 + 1) M21))
        (fR_isWrong_64 FU y1 y2 (-1) 0 M21))
      (fR_isWrong_64 FU y1 y2 (-1) 0 M3)
def fR_isWrong (x1 : Int) (M : Mm) : Option (Int × Mm) :=
  mcn (fR_isBad x1 M) fun v2 M1 =>
  meq v2 0
    (fR_isWrong_14 FU x1 0 0 M1)
    (some (1, M1))
set_option maxRecDepth 10000 in
theorem wR_isWrong_142 {v0 : Int} {M9 : Mm} (X : Cy p l e (rmn 4 93) s m args below meth c D aK TR mvR false a0 "PackedImageModel" cR_isWrong 6 (some .boolean) (0, v0, M9)) {K64 : Int → Int → Int → Int → Mm → Option (Int × Mm)} (hK64 : ∀ (y1 : Int) (y2 : Int) (y3 : Int) (y4 : Int) (M : Mm), K64 y1 y2 y3 y4 M = some (v0, M9) → Wm X 64 [some (.inr 0), some (.inl y1), some (.inl y2), some (.inl y3), some (.inl y4), none] [] M) : ∀ (y1 : Int) (y4 : Int) (z0 : Int) (M : Mm), fR_isWrong_142 K64 y1 y4 z0 M = some (v0, M9) → Wm X 142 [some (.inr 0), some (.inl y1), none, none, some (.inl y4), none] [.inl z0] M := by
  intro y1 y4 z0 M hf
  unfold fR_isWrong_142 at hf
  refine x_istoren dR_isWrong_142 (by decide) ?_
  refine x_aloadn dR_isWrong_143 rfl ?_
  refine x_iloadn dR_isWrong_144 rfl ?_
  refine x_iload dR_isWrong_145 rfl ?_
  refine x_cvni hf (kR_byteOf X.hst) iR_byteOf lR_189 tR_0 rfl rfl (by decide) (Nat.le_of_ble_eq_true rfl) dR_isWrong_147 (fun v12 M11 hf => ?_)
  refine x_istoren dR_isWrong_150 (by decide) ?_
  refine x_iinc dR_isWrong_151 rfl (by decide) ?_
  refine x_goto (tgt := 64) dR_isWrong_154 rfl ?_
  exact x_mask [true, true, true, true, true, false] (hK64 _ _ _ _ _ hf)
set_option maxRecDepth 10000 in
theorem wR_isWrong_137 {v0 : Int} {M9 : Mm} (X : Cy p l e (rmn 4 93) s m args below meth c D aK TR mvR false a0 "PackedImageModel" cR_isWrong 6 (some .boolean) (0, v0, M9)) {K64 : Int → Int → Int → Int → Mm → Option (Int × Mm)} (hK64 : ∀ (y1 : Int) (y2 : Int) (y3 : Int) (y4 : Int) (M : Mm), K64 y1 y2 y3 y4 M = some (v0, M9) → Wm X 64 [some (.inr 0), some (.inl y1), some (.inl y2), some (.inl y3), some (.inl y4), none] [] M) : ∀ (y1 : Int) (y4 : Int) (M : Mm), fR_isWrong_137 K64 y1 y4 M = some (v0, M9) → Wm X 137 [some (.inr 0), some (.inl y1), none, none, some (.inl y4), none] [] M := by
  intro y1 y4 M hf
  unfold fR_isWrong_137 at hf
  refine x_iconst dR_isWrong_137 ?_
  refine x_goto (tgt := 142) dR_isWrong_138 rfl ?_
  exact x_mask [true, true, false, false, true, false] (wR_isWrong_142 X hK64 _ _ _ _ hf)
set_option maxRecDepth 10000 in
theorem wR_isWrong_64 {v0 : Int} {M9 : Mm} (X : Cy p l e (rmn 4 93) s m args below meth c D aK TR mvR false a0 "PackedImageModel" cR_isWrong 6 (some .boolean) (0, v0, M9)) : ∀ (n : Nat) (y1 : Int) (y2 : Int) (y3 : Int) (y4 : Int) (M : Mm), fR_isWrong_64 n y1 y2 y3 y4 M = some (v0, M9) → Wm X 64 [some (.inr 0), some (.inl y1), some (.inl y2), some (.inl y3), some (.inl y4), none] [] M := by
  intro n
  induction n with
  | zero => intro y1 y2 y3 y4 M hf; exact nomatch (show (none : Option (Int × Mm)) = _ from hf)
  | succ n ih =>
    intro y1 y2 y3 y4 M hf
    rw [fR_isWrong_64] at hf
    refine x_aloadn dR_isWrong_64 rfl ?_
    refine x_iloadn dR_isWrong_65 rfl ?_
    refine x_iconst dR_isWrong_66 ?_
    refine x_cvni hf (kR_tag X.hst) iR_tag lR_165 tR_0 rfl rfl (by decide) (Nat.le_of_ble_eq_true rfl) dR_isWrong_67 (fun v6 M5 hf => ?_)
    refine x_ne0 hf dR_isWrong_70 rfl (fun hf => ?_) (fun hf => ?_)
    · refine x_iloadn dR_isWrong_157 rfl ?_
      obtain ⟨hz, hf⟩ := mif_of hf
      exact x_zret (rt_n hf) hz rfl dR_isWrong_158
    · refine x_iload dR_isWrong_73 rfl ?_
      refine x_aloadn dR_isWrong_75 rfl ?_
      refine x_iloadn dR_isWrong_76 rfl ?_
      refine x_cvni hf (kR_size X.hst) iR_size lR_162 tR_0 rfl rfl (by decide) (Nat.le_of_ble_eq_true rfl) dR_isWrong_77 (fun v8 M7 hf => ?_)
      refine x_ge hf dR_isWrong_80 rfl (fun hf => ?_) (fun hf => ?_)
      · refine x_iloadn dR_isWrong_157 rfl ?_
        obtain ⟨hz, hf⟩ := mif_of hf
        exact x_zret (rt_n hf) hz rfl dR_isWrong_158
      · refine x_aloadn dR_isWrong_83 rfl ?_
        refine x_iloadn dR_isWrong_84 rfl ?_
        refine x_iload dR_isWrong_85 rfl ?_
        refine x_iconst dR_isWrong_87 ?_
        refine x_iadd dR_isWrong_88 ?_
        refine x_cvni hf (kR_byteOf X.hst) iR_byteOf lR_189 tR_0 rfl rfl (by decide) (Nat.le_of_ble_eq_true rfl) dR_isWrong_89 (fun v10 M9 hf => ?_)
        refine x_istore dR_isWrong_92 (by decide) ?_
        refine x_iloadn dR_isWrong_94 rfl ?_
        refine x_ne0 hf dR_isWrong_95 rfl (fun hf => ?_) (fun hf => ?_)
        · exact x_mask [true, true, false, false, true, false] (wR_isWrong_137 X ih _ _ _ hf)
        · refine x_aloadn dR_isWrong_98 rfl ?_
          refine x_iloadn dR_isWrong_99 rfl ?_
          refine x_iload dR_isWrong_100 rfl ?_
          refine x_cvni hf (kR_byteOf X.hst) iR_byteOf lR_189 tR_0 rfl rfl (by decide) (Nat.le_of_ble_eq_true rfl) dR_isWrong_102 (fun v14 M13 hf => ?_)
          refine x_iloadn dR_isWrong_105 rfl ?_
          refine x_le hf dR_isWrong_106 rfl (fun hf => ?_) (fun hf => ?_)
          · exact x_mask [true, true, false, false, true, false] (wR_isWrong_137 X ih _ _ _ hf)
          · refine x_aloadn dR_isWrong_109 rfl ?_
            refine x_iload dR_isWrong_110 rfl ?_
            refine x_cvni hf (kR_isInode X.hst) iR_isInode lR_174 tR_0 rfl rfl (by decide) (Nat.le_of_ble_eq_true rfl) dR_isWrong_112 (fun v16 M15 hf => ?_)
            refine x_eq0 hf dR_isWrong_115 rfl (fun hf => ?_) (fun hf => ?_)
            · exact x_mask [true, true, false, false, true, false] (wR_isWrong_137 X ih _ _ _ hf)
            · refine x_aloadn dR_isWrong_118 rfl ?_
              refine x_iload dR_isWrong_119 rfl ?_
              refine x_iconst dR_isWrong_121 ?_
              refine x_cvni hf (kR_tag X.hst) iR_tag lR_165 tR_0 rfl rfl (by decide) (Nat.le_of_ble_eq_true rfl) dR_isWrong_122 (fun v18 M17 hf => ?_)
              refine x_aloadn dR_isWrong_125 rfl ?_
              refine x_iloadn dR_isWrong_126 rfl ?_
              refine x_iload dR_isWrong_127 rfl ?_
              refine x_iconst dR_isWrong_129 ?_
              refine x_iadd dR_isWrong_130 ?_
              refine x_cvni hf (kR_byteOf X.hst) iR_byteOf lR_189 tR_0 rfl rfl (by decide) (Nat.le_of_ble_eq_true rfl) dR_isWrong_131 (fun v20 M19 hf => ?_)
              refine x_eq hf dR_isWrong_134 rfl (fun hf => ?_) (fun hf => ?_)
              · refine x_iconst dR_isWrong_141 ?_
                exact x_mask [true, true, false, false, true, false] (wR_isWrong_142 X ih _ _ _ _ hf)
              · exact x_mask [true, true, false, false, true, false] (wR_isWrong_137 X ih _ _ _ hf)
set_option maxRecDepth 10000 in
theorem wR_isWrong_14 {v0 : Int} {M9 : Mm} (X : Cy p l e (rmn 4 93) s m args below meth c D aK TR mvR false a0 "PackedImageModel" cR_isWrong 6 (some .boolean) (0, v0, M9)) : ∀ (n : Nat) (y1 : Int) (y2 : Int) (y3 : Int) (M : Mm), fR_isWrong_14 n y1 y2 y3 M = some (v0, M9) → Wm X 14 [some (.inr 0), some (.inl y1), some (.inl y2), some (.inl y3), none, none] [] M := by
  intro n
  induction n with
  | zero => intro y1 y2 y3 M hf; exact nomatch (show (none : Option (Int × Mm)) = _ from hf)
  | succ n ih =>
    intro y1 y2 y3 M hf
    rw [fR_isWrong_14] at hf
    refine x_aloadn dR_isWrong_14 rfl ?_
    refine x_iloadn dR_isWrong_15 rfl ?_
    refine x_iconst dR_isWrong_16 ?_
    refine x_cvni hf (kR_tag X.hst) iR_tag lR_165 tR_0 rfl rfl (by decide) (Nat.le_of_ble_eq_true rfl) dR_isWrong_17 (fun v4 M3 hf => ?_)
    refine x_iconst dR_isWrong_20 ?_
    refine x_ne hf dR_isWrong_21 rfl (fun hf => ?_) (fun hf => ?_)
    · refine x_iconst dR_isWrong_59 ?_
      refine x_istoren dR_isWrong_60 (by decide) ?_
      refine x_iconst dR_isWrong_61 ?_
      refine x_istore dR_isWrong_62 (by decide) ?_
      exact x_mask [true, true, true, true, true, false] (wR_isWrong_64 X FU _ _ _ _ _ hf)
    · refine x_iloadn dR_isWrong_24 rfl ?_
      refine x_aloadn dR_isWrong_25 rfl ?_
      refine x_iloadn dR_isWrong_26 rfl ?_
      refine x_iconst dR_isWrong_27 ?_
      refine x_cvni hf (kR_rest X.hst) iR_rest lR_155 tR_0 rfl rfl (by decide) (Nat.le_of_ble_eq_true rfl) dR_isWrong_28 (fun v22 M21 hf => ?_)
      refine x_ge hf dR_isWrong_31 rfl (fun hf => ?_) (fun hf => ?_)
      · refine x_iconst dR_isWrong_59 ?_
        refine x_istoren dR_isWrong_60 (by decide) ?_
        refine x_iconst dR_isWrong_61 ?_
        refine x_istore dR_isWrong_62 (by decide) ?_
        exact x_mask [true, true, true, true, true, false] (wR_isWrong_64 X FU _ _ _ _ _ hf)
      · refine x_iloadn dR_isWrong_34 rfl ?_
        refine x_ne0 hf dR_isWrong_35 rfl (fun hf => ?_) (fun hf => ?_)
        · refine x_iconst dR_isWrong_47 ?_
          refine x_goto (tgt := 52) dR_isWrong_48 rfl ?_
          refine x_istoren dR_isWrong_52 (by decide) ?_
          refine x_iinc dR_isWrong_53 rfl (by decide) ?_
          refine x_goto (tgt := 14) dR_isWrong_56 rfl ?_
          exact x_mask [true, true, true, true, false, false] (ih _ _ _ _ hf)
        · refine x_aloadn dR_isWrong_38 rfl ?_
          refine x_iloadn dR_isWrong_39 rfl ?_
          refine x_iloadn dR_isWrong_40 rfl ?_
          refine x_cvni hf (kR_unpack X.hst) iR_unpack lR_180 tR_0 rfl rfl (by decide) (Nat.le_of_ble_eq_true rfl) dR_isWrong_41 (fun v24 M23 hf => ?_)
          refine x_ne0 hf dR_isWrong_44 rfl (fun hf => ?_) (fun hf => ?_)
          · refine x_iconst dR_isWrong_51 ?_
            refine x_istoren dR_isWrong_52 (by decide) ?_
            refine x_iinc dR_isWrong_53 rfl (by decide) ?_
            refine x_goto (tgt := 14) dR_isWrong_56 rfl ?_
            exact x_mask [true, true, true, true, false, false] (ih _ _ _ _ hf)
          · refine x_iconst dR_isWrong_47 ?_
            refine x_goto (tgt := 52) dR_isWrong_48 rfl ?_
            refine x_istoren dR_isWrong_52 (by decide) ?_
            refine x_iinc dR_isWrong_53 rfl (by decide) ?_
            refine x_goto (tgt := 14) dR_isWrong_56 rfl ?_
            exact x_mask [true, true, true, true, false, false] (ih _ _ _ _ hf)
set_option maxRecDepth 10000 in
theorem wR_isWrong {v0 : Int} {M9 : Mm} (X : Cy p l e (rmn 4 93) s m args below meth c D aK TR mvR false a0 "PackedImageModel" cR_isWrong 6 (some .boolean) (0, v0, M9)) {x1 : Int} {M : Mm} (hf : fR_isWrong x1 M = some (v0, M9)) : Wm X 0 [some (.inr 0), some (.inl x1), none, none, none, none] [] M := by
  unfold fR_isWrong at hf
  refine x_aloadn dR_isWrong_0 rfl ?_
  refine x_iloadn dR_isWrong_1 rfl ?_
  refine x_cvni hf (kR_isBad X.hst) iR_isBad lR_177 tR_0 rfl rfl (by decide) (Nat.le_of_ble_eq_true rfl) dR_isWrong_2 (fun v2 M1 hf => ?_)
  refine x_eq0 hf dR_isWrong_5 rfl (fun hf => ?_) (fun hf => ?_)
  · refine x_iconst dR_isWrong_10 ?_
    refine x_istoren dR_isWrong_11 (by decide) ?_
    refine x_iconst dR_isWrong_12 ?_
    refine x_istoren dR_isWrong_13 (by decide) ?_
    exact x_mask [true, true, true, true, false, false] (wR_isWrong_14 X FU _ _ _ _ hf)
  · refine x_iconst dR_isWrong_8 ?_
    exact x_zret (rt_n hf) (by decide) rfl dR_isWrong_9
theorem kR_isWrong {l : Launch} (hl : l.stackTraces = false) {x1 : Int} {M : Mm} (v0 : Int) (M9 : Mm) (hf : fR_isWrong x1 M = some (v0, M9)) : Ct l yR_isWrong (rmn 4 93) TR mvR false (some .boolean) [.inr 0, .inl x1] M (0, v0, M9) := ct_of hl (by decide) iR_isWrong.1 (Nat.le_of_ble_eq_true rfl) (fun X => wR_isWrong X hf)
def fR_check0_34 : Nat → Int → Int → Mm → Option (Int × Mm)
  | 0, _, _, _ => none
  | n+1, y1, y2, M =>
    mlt y2 0
      (some (y1, M))
      (mrd M 14 256 y2 fun v2 =>
      meq v2 0
        ((fR_check0_34 n) y1 (y2 + (-1)) M)
        (mcn (fR_isWrong y2 M) fun v4 M3 =>
        meq v4 0
          ((fR_check0_34 n) y1 (y2 + (-1)) M3)
          ((fR_check0_34 n) y2 (y2 + (-1)) M3)))
def fR_check0_13 (z1 : Int) (M : Mm) : Option (Int × Mm) :=
  mput M 0 0 z1 fun M1 =>
  mlt 0 (M1 0 0)
    (some (0, M1))
    (fR_check0_34 FU (-1) ((M1 0 18) - 1) M1)
def fR_check0 (M : Mm) : Option (Int × Mm) :=
  meq (M 0 17) 0
    (fR_check0_13 1 M)
    (fR_check0_13 0 M)
set_option maxRecDepth 10000 in
theorem wR_check0_34 {v0 : Int} {M9 : Mm} (X : Cy p l e (rmn 5 118) s m args below meth c D aK TR mvR false a0 "PackedImageModel" cR_check0 3 (some .int) (0, v0, M9)) : ∀ (n : Nat) (y1 : Int) (y2 : Int) (M : Mm), fR_check0_34 n y1 y2 M = some (v0, M9) → Wm X 34 [some (.inr 0), some (.inl y1), some (.inl y2)] [] M := by
  intro n
  induction n with
  | zero => intro y1 y2 M hf; exact nomatch (show (none : Option (Int × Mm)) = _ from hf)
  | succ n ih =>
    intro y1 y2 M hf
    rw [fR_check0_34] at hf
    refine x_iloadn dR_check0_34 rfl ?_
    refine x_lt0 hf dR_check0_35 rfl (fun hf => ?_) (fun hf => ?_)
    · refine x_iloadn dR_check0_67 rfl ?_
      exact x_iret (rt_n hf) rfl dR_check0_68
    · refine x_aloadn dR_check0_38 rfl ?_
      refine x_getR gR_54 tR_0 rfl dR_check0_39 ?_
      refine x_iloadn dR_check0_42 rfl ?_
      refine x_zald hf tR_14 (by decide) dR_check0_43 (fun v2 hf => ?_)
      refine x_eq0 hf dR_check0_44 rfl (fun hf => ?_) (fun hf => ?_)
      · refine x_iloadn dR_check0_59 rfl ?_
        refine x_istoren dR_check0_60 (by decide) ?_
        refine x_iinc dR_check0_61 rfl (by decide) ?_
        refine x_goto (tgt := 34) dR_check0_64 rfl ?_
        exact x_mask [true, true, true] (ih _ _ _ hf)
      · refine x_aloadn dR_check0_47 rfl ?_
        refine x_iloadn dR_check0_48 rfl ?_
        refine x_cvni hf (kR_isWrong X.hst) iR_isWrong lR_204 tR_0 rfl rfl (by decide) (Nat.le_of_ble_eq_true rfl) dR_check0_49 (fun v4 M3 hf => ?_)
        refine x_eq0 hf dR_check0_52 rfl (fun hf => ?_) (fun hf => ?_)
        · refine x_iloadn dR_check0_59 rfl ?_
          refine x_istoren dR_check0_60 (by decide) ?_
          refine x_iinc dR_check0_61 rfl (by decide) ?_
          refine x_goto (tgt := 34) dR_check0_64 rfl ?_
          exact x_mask [true, true, true] (ih _ _ _ hf)
        · refine x_iloadn dR_check0_55 rfl ?_
          refine x_goto (tgt := 60) dR_check0_56 rfl ?_
          refine x_istoren dR_check0_60 (by decide) ?_
          refine x_iinc dR_check0_61 rfl (by decide) ?_
          refine x_goto (tgt := 34) dR_check0_64 rfl ?_
          exact x_mask [true, true, true] (ih _ _ _ hf)
set_option maxRecDepth 10000 in
theorem wR_check0_13 {v0 : Int} {M9 : Mm} (X : Cy p l e (rmn 5 118) s m args below meth c D aK TR mvR false a0 "PackedImageModel" cR_check0 3 (some .int) (0, v0, M9)) : ∀ (z1 : Int) (M : Mm), fR_check0_13 z1 M = some (v0, M9) → Wm X 13 [some (.inr 0), none, none] [.inl z1, .inr 0] M := by
  intro z1 M hf
  unfold fR_check0_13 at hf
  refine x_put hf gR_69 pR_0 tR_0 rfl dR_check0_13 (fun M1 hf => ?_)
  refine x_aloadn dR_check0_16 rfl ?_
  refine x_getI gR_69 tR_0 rfl dR_check0_17 ?_
  refine x_le0 hf dR_check0_20 rfl (fun hf => ?_) (fun hf => ?_)
  · refine x_iconst dR_check0_25 ?_
    refine x_istoren dR_check0_26 (by decide) ?_
    refine x_aloadn dR_check0_27 rfl ?_
    refine x_getI gR_143 tR_0 rfl dR_check0_28 ?_
    refine x_iconst dR_check0_31 ?_
    refine x_isub dR_check0_32 ?_
    refine x_istoren dR_check0_33 (by decide) ?_
    exact x_mask [true, true, true] (wR_check0_34 X FU _ _ _ hf)
  · refine x_iconst dR_check0_23 ?_
    exact x_iret (rt_n hf) rfl dR_check0_24
set_option maxRecDepth 10000 in
theorem wR_check0 {v0 : Int} {M9 : Mm} (X : Cy p l e (rmn 5 118) s m args below meth c D aK TR mvR false a0 "PackedImageModel" cR_check0 3 (some .int) (0, v0, M9)) {M : Mm} (hf : fR_check0 M = some (v0, M9)) : Wm X 0 [some (.inr 0), none, none] [] M := by
  unfold fR_check0 at hf
  refine x_aloadn dR_check0_0 rfl ?_
  refine x_aloadn dR_check0_1 rfl ?_
  refine x_getI gR_132 tR_0 rfl dR_check0_2 ?_
  refine x_eq0 hf dR_check0_5 rfl (fun hf => ?_) (fun hf => ?_)
  · refine x_iconst dR_check0_12 ?_
    exact x_mask [true, false, false] (wR_check0_13 X _ _ hf)
  · refine x_iconst dR_check0_8 ?_
    refine x_goto (tgt := 13) dR_check0_9 rfl ?_
    exact x_mask [true, false, false] (wR_check0_13 X _ _ hf)
theorem kR_check0 {l : Launch} (hl : l.stackTraces = false) {M : Mm} (v0 : Int) (M9 : Mm) (hf : fR_check0 M = some (v0, M9)) : Ct l yR_check0 (rmn 5 118) TR mvR false (some .int) [.inr 0] M (0, v0, M9) := ct_of hl (by decide) iR_check0.1 (Nat.le_of_ble_eq_true rfl) (fun X => wR_check0 X hf)
end WK
