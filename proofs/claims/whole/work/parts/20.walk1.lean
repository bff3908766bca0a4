section WK
variable {p : Program} {l : Launch} {e : Env} {s : State} {m : MethodId} {args : Array Value} {below : List Frame} {meth : Method} {c : Code} {D : va_G} {aK : Nat → ClassId} {a0 : Nat → Nat}
def fPa_putNext_71 (y1 y2 y3 z0 z1 : Int) (M : Mm) : Option (Int × Mm) :=
  mlt y3 (z0 + z1)
    (mmin y1 y3 fun v3 =>
    mlt 0 v3
      (mcn (fPa_putToken v3 0 M) fun _ M4 =>
      some (0, M4))
      (some (0, M)))
    (mcn (fPa_putToken y1 y2 M) fun _ M5 =>
    some (1, M5))
def fPa_putNext_51 (y1 y2 : Int) (M : Mm) : Option (Int × Mm) :=
  mlt 0 y2
    (fPa_putNext_71 y1 y2 ((16 - (M 12 7)) - 1) y1 1 M)
    (fPa_putNext_71 y1 y2 ((16 - (M 12 7)) - 1) y1 0 M)
def fPa_putNext_11 : Nat → Int → Int → Mm → Option (Int × Mm)
  | 0, _, _, _ => none
  | n+1, y1, y2, M =>
    meq y2 0
      (mlt y1 15
        (mlt ((M 12 6) + y1) (M 12 3)
          (mcn (fPa_matchAt ((M 12 6) + (y1 + 1)) M) fun v7 M6 =>
          (fPa_putNext_11 n) (y1 + 1) v7 M6)
          (fPa_putNext_51 y1 y2 M))
        (fPa_putNext_51 y1 y2 M))
      (fPa_putNext_51 y1 y2 M)
def fPa_putNext (M : Mm) : Option (Int × Mm) :=
  mcn (fPa_matchAt (M 12 6) M) fun v2 M1 =>
  fPa_putNext_11 FU 0 v2 M1
set_option maxRecDepth 10000 in
theorem wPa_putNext_71 {v0 : Int} {M9 : Mm} (X : Cy p l e (rmn 2 46) s m args below meth c D aK TX mvX false a0 "PackedImage$Packer" cPa_putNext 5 (some .boolean) (0, v0, M9)) : ∀ (y1 : Int) (y2 : Int) (y3 : Int) (z0 : Int) (z1 : Int) (M : Mm), fPa_putNext_71 y1 y2 y3 z0 z1 M = some (v0, M9) → Wm X 71 [some (.inr 12), some (.inl y1), some (.inl y2), some (.inl y3), none] [.inl z1, .inl z0] M := by
  intro y1 y2 y3 z0 z1 M hf
  unfold fPa_putNext_71 at hf
  refine x_iadd dPa_putNext_71 ?_
  refine x_iloadn dPa_putNext_72 rfl ?_
  refine x_gt hf dPa_putNext_73 rfl (fun hf => ?_) (fun hf => ?_)
  · refine x_iloadn dPa_putNext_84 rfl ?_
    refine x_iloadn dPa_putNext_85 rfl ?_
    refine x_min hf lPa_67 mw_min ⟨Nat.le_of_ble_eq_true rfl, Nat.le_of_ble_eq_true rfl⟩ dPa_putNext_86 (fun v3 hf => ?_)
    refine x_istore dPa_putNext_89 (by decide) ?_
    refine x_iload dPa_putNext_91 rfl ?_
    refine x_le0 hf dPa_putNext_93 rfl (fun hf => ?_) (fun hf => ?_)
    · refine x_iconst dPa_putNext_103 ?_
      exact x_zret (rt_n hf) (by decide) rfl dPa_putNext_104
    · refine x_aloadn dPa_putNext_96 rfl ?_
      refine x_iload dPa_putNext_97 rfl ?_
      refine x_iconst dPa_putNext_99 ?_
      refine x_cvnv hf (kPa_putToken X.hst) iPa_putToken lPa_63 tX_12 rfl rfl (by decide) (Nat.le_of_ble_eq_true rfl) dPa_putNext_100 (fun _ M4 hf => ?_)
      refine x_iconst dPa_putNext_103 ?_
      exact x_zret (rt_n hf) (by decide) rfl dPa_putNext_104
  · refine x_aloadn dPa_putNext_76 rfl ?_
    refine x_iloadn dPa_putNext_77 rfl ?_
    refine x_iloadn dPa_putNext_78 rfl ?_
    refine x_cvnv hf (kPa_putToken X.hst) iPa_putToken lPa_63 tX_12 rfl rfl (by decide) (Nat.le_of_ble_eq_true rfl) dPa_putNext_79 (fun _ M5 hf => ?_)
    refine x_iconst dPa_putNext_82 ?_
    exact x_zret (rt_n hf) (by decide) rfl dPa_putNext_83
set_option maxRecDepth 10000 in
theorem wPa_putNext_51 {v0 : Int} {M9 : Mm} (X : Cy p l e (rmn 2 46) s m args below meth c D aK TX mvX false a0 "PackedImage$Packer" cPa_putNext 5 (some .boolean) (0, v0, M9)) : ∀ (y1 : Int) (y2 : Int) (M : Mm), fPa_putNext_51 y1 y2 M = some (v0, M9) → Wm X 51 [some (.inr 12), some (.inl y1), some (.inl y2), none, none] [] M := by
  intro y1 y2 M hf
  unfold fPa_putNext_51 at hf
  refine x_bipush dPa_putNext_51 (by decide) ?_
  refine x_aloadn dPa_putNext_53 rfl ?_
  refine x_getI gPa_53 tX_12 rfl dPa_putNext_54 ?_
  refine x_isub dPa_putNext_57 ?_
  refine x_iconst dPa_putNext_58 ?_
  refine x_isub dPa_putNext_59 ?_
  refine x_istoren dPa_putNext_60 (by decide) ?_
  refine x_iloadn dPa_putNext_61 rfl ?_
  refine x_iloadn dPa_putNext_62 rfl ?_
  refine x_le0 hf dPa_putNext_63 rfl (fun hf => ?_) (fun hf => ?_)
  · refine x_iconst dPa_putNext_70 ?_
    exact x_mask [true, true, true, true, false] (wPa_putNext_71 X _ _ _ _ _ _ hf)
  · refine x_iconst dPa_putNext_66 ?_
    refine x_goto (tgt := 71) dPa_putNext_67 rfl ?_
    exact x_mask [true, true, true, true, false] (wPa_putNext_71 X _ _ _ _ _ _ hf)
set_option maxRecDepth 10000 in
theorem wPa_putNext_11 {v0 : Int} {M9 : Mm} (X : Cy p l e (rmn 2 46) s m args below meth c D aK TX mvX false a0 "PackedImage$Packer" cPa_putNext 5 (some .boolean) (0, v0, M9)) : ∀ (n : Nat) (y1 : Int) (y2 : Int) (M : Mm), fPa_putNext_11 n y1 y2 M = some (v0, M9) → Wm X 11 [some (.inr 12), some (.inl y1), some (.inl y2), none, none] [] M := by
  intro n
  induction n with
  | zero => intro y1 y2 M hf; exact nomatch (show (none : Option (Int × Mm)) = _ from hf)
  | succ n ih =>
    intro y1 y2 M hf
    rw [fPa_putNext_11] at hf
    refine x_iloadn dPa_putNext_11 rfl ?_
    refine x_ne0 hf dPa_putNext_12 rfl (fun hf => ?_) (fun hf => ?_)
    · exact x_mask [true, true, true, false, false] (wPa_putNext_51 X _ _ _ hf)
    · refine x_iloadn dPa_putNext_15 rfl ?_
      refine x_bipush dPa_putNext_16 (by decide) ?_
      refine x_ge hf dPa_putNext_18 rfl (fun hf => ?_) (fun hf => ?_)
      · exact x_mask [true, true, true, false, false] (wPa_putNext_51 X _ _ _ hf)
      · refine x_aloadn dPa_putNext_21 rfl ?_
        refine x_getI gPa_41 tX_12 rfl dPa_putNext_22 ?_
        refine x_iloadn dPa_putNext_25 rfl ?_
        refine x_iadd dPa_putNext_26 ?_
        refine x_aloadn dPa_putNext_27 rfl ?_
        refine x_getI gPa_31 tX_12 rfl dPa_putNext_28 ?_
        refine x_ge hf dPa_putNext_31 rfl (fun hf => ?_) (fun hf => ?_)
        · exact x_mask [true, true, true, false, false] (wPa_putNext_51 X _ _ _ hf)
        · refine x_iinc dPa_putNext_34 rfl (by decide) ?_
          refine x_aloadn dPa_putNext_37 rfl ?_
          refine x_aloadn dPa_putNext_38 rfl ?_
          refine x_getI gPa_41 tX_12 rfl dPa_putNext_39 ?_
          refine x_iloadn dPa_putNext_42 rfl ?_
          refine x_iadd dPa_putNext_43 ?_
          refine x_cvni hf (kPa_matchAt X.hst) iPa_matchAt lPa_60 tX_12 rfl rfl (by decide) (Nat.le_of_ble_eq_true rfl) dPa_putNext_44 (fun v7 M6 hf => ?_)
          refine x_istoren dPa_putNext_47 (by decide) ?_
          refine x_goto (tgt := 11) dPa_putNext_48 rfl ?_
          exact x_mask [true, true, true, false, false] (ih _ _ _ hf)
set_option maxRecDepth 10000 in
theorem wPa_putNext {v0 : Int} {M9 : Mm} (X : Cy p l e (rmn 2 46) s m args below meth c D aK TX mvX false a0 "PackedImage$Packer" cPa_putNext 5 (some .boolean) (0, v0, M9)) {M : Mm} (hf : fPa_putNext M = some (v0, M9)) : Wm X 0 [some (.inr 12), none, none, none, none] [] M := by
  unfold fPa_putNext at hf
  refine x_iconst dPa_putNext_0 ?_
  refine x_istoren dPa_putNext_1 (by decide) ?_
  refine x_aloadn dPa_putNext_2 rfl ?_
  refine x_aloadn dPa_putNext_3 rfl ?_
  refine x_getI gPa_41 tX_12 rfl dPa_putNext_4 ?_
  refine x_cvni hf (kPa_matchAt X.hst) iPa_matchAt lPa_60 tX_12 rfl rfl (by decide) (Nat.le_of_ble_eq_true rfl) dPa_putNext_7 (fun v2 M1 hf => ?_)
  refine x_istoren dPa_putNext_10 (by decide) ?_
  exact x_mask [true, true, true, false, false] (wPa_putNext_11 X FU _ _ _ hf)
theorem kPa_putNext {l : Launch} (hl : l.stackTraces = false) {M : Mm} (v0 : Int) (M9 : Mm) (hf : fPa_putNext M = some (v0, M9)) : Ct l yPa_putNext (rmn 2 46) TX mvX false (some .boolean) [.inr 12] M (0, v0, M9) := ct_of hl (by decide) iPa_putNext.1 (Nat.le_of_ble_eq_true rfl) (fun X => wPa_putNext X hf)
def fPa_packCluster_17 : Nat → Int → Int → Mm → Option (Int × Mm)
  | 0, _, _, _ => none
  | n+1, y1, y2, M =>
    mlt y2 16
      (meq y1 0
        (some (0, M))
        (mcn (fPa_putNext M) fun v4 M3 =>
        meq v4 0
          ((fPa_packCluster_17 n) 0 (y2 + 1) M3)
          (mlt (M3 12 6) (M3 12 3)
            (mlt (M3 12 7) 16
              ((fPa_packCluster_17 n) 1 (y2 + 1) M3)
              ((fPa_packCluster_17 n) 0 (y2 + 1) M3))
            ((fPa_packCluster_17 n) 0 (y2 + 1) M3))))
      (some (0, M))
def fPa_packCluster (M : Mm) : Option (Int × Mm) :=
  mput M 12 5 (M 12 6) fun M1 =>
  mput M1 12 7 0 fun M2 =>
  fPa_packCluster_17 FU 1 0 M2
set_option maxRecDepth 10000 in
theorem wPa_packCluster_17 {v0 : Int} {M9 : Mm} (X : Cy p l e (rmn 3 70) s m args below meth c D aK TX mvX false a0 "PackedImage$Packer" cPa_packCluster 3 none (0, v0, M9)) : ∀ (n : Nat) (y1 : Int) (y2 : Int) (M : Mm), fPa_packCluster_17 n y1 y2 M = some (v0, M9) → Wm X 17 [some (.inr 12), some (.inl y1), some (.inl y2)] [] M := by
  intro n
  induction n with
  | zero => intro y1 y2 M hf; exact nomatch (show (none : Option (Int × Mm)) = _ from hf)
  | succ n ih =>
    intro y1 y2 M hf
    rw [fPa_packCluster_17] at hf
    refine x_iloadn dPa_packCluster_17 rfl ?_
    refine x_bipush dPa_packCluster_18 (by decide) ?_
    refine x_ge hf dPa_packCluster_20 rfl (fun hf => ?_) (fun hf => ?_)
    · exact x_vret ⟨_, rt_n hf⟩ rfl dPa_packCluster_66
    · refine x_iloadn dPa_packCluster_23 rfl ?_
      refine x_eq0 hf dPa_packCluster_24 rfl (fun hf => ?_) (fun hf => ?_)
      · exact x_vret ⟨_, rt_n hf⟩ rfl dPa_packCluster_66
      · refine x_aloadn dPa_packCluster_27 rfl ?_
        refine x_cvni hf (kPa_putNext X.hst) iPa_putNext lPa_56 tX_12 rfl rfl (by decide) (Nat.le_of_ble_eq_true rfl) dPa_packCluster_28 (fun v4 M3 hf => ?_)
        refine x_eq0 hf dPa_packCluster_31 rfl (fun hf => ?_) (fun hf => ?_)
        · refine x_iconst dPa_packCluster_58 ?_
          refine x_istoren dPa_packCluster_59 (by decide) ?_
          refine x_iinc dPa_packCluster_60 rfl (by decide) ?_
          refine x_goto (tgt := 17) dPa_packCluster_63 rfl ?_
          exact x_mask [true, true, true] (ih _ _ _ hf)
        · refine x_aloadn dPa_packCluster_34 rfl ?_
          refine x_getI gPa_41 tX_12 rfl dPa_packCluster_35 ?_
          refine x_aloadn dPa_packCluster_38 rfl ?_
          refine x_getI gPa_31 tX_12 rfl dPa_packCluster_39 ?_
          refine x_ge hf dPa_packCluster_42 rfl (fun hf => ?_) (fun hf => ?_)
          · refine x_iconst dPa_packCluster_58 ?_
            refine x_istoren dPa_packCluster_59 (by decide) ?_
            refine x_iinc dPa_packCluster_60 rfl (by decide) ?_
            refine x_goto (tgt := 17) dPa_packCluster_63 rfl ?_
            exact x_mask [true, true, true] (ih _ _ _ hf)
          · refine x_aloadn dPa_packCluster_45 rfl ?_
            refine x_getI gPa_53 tX_12 rfl dPa_packCluster_46 ?_
            refine x_bipush dPa_packCluster_49 (by decide) ?_
            refine x_ge hf dPa_packCluster_51 rfl (fun hf => ?_) (fun hf => ?_)
            · refine x_iconst dPa_packCluster_58 ?_
              refine x_istoren dPa_packCluster_59 (by decide) ?_
              refine x_iinc dPa_packCluster_60 rfl (by decide) ?_
              refine x_goto (tgt := 17) dPa_packCluster_63 rfl ?_
              exact x_mask [true, true, true] (ih _ _ _ hf)
            · refine x_iconst dPa_packCluster_54 ?_
              refine x_goto (tgt := 59) dPa_packCluster_55 rfl ?_
              refine x_istoren dPa_packCluster_59 (by decide) ?_
              refine x_iinc dPa_packCluster_60 rfl (by decide) ?_
              refine x_goto (tgt := 17) dPa_packCluster_63 rfl ?_
              exact x_mask [true, true, true] (ih _ _ _ hf)
set_option maxRecDepth 10000 in
theorem wPa_packCluster {v0 : Int} {M9 : Mm} (X : Cy p l e (rmn 3 70) s m args below meth c D aK TX mvX false a0 "PackedImage$Packer" cPa_packCluster 3 none (0, v0, M9)) {M : Mm} (hf : fPa_packCluster M = some (v0, M9)) : Wm X 0 [some (.inr 12), none, none] [] M := by
  unfold fPa_packCluster at hf
  refine x_aloadn dPa_packCluster_0 rfl ?_
  refine x_aloadn dPa_packCluster_1 rfl ?_
  refine x_getI gPa_41 tX_12 rfl dPa_packCluster_2 ?_
  refine x_put hf gPa_50 pPa_5 tX_12 rfl dPa_packCluster_5 (fun M1 hf => ?_)
  refine x_aloadn dPa_packCluster_8 rfl ?_
  refine x_iconst dPa_packCluster_9 ?_
  refine x_put hf gPa_53 pPa_7 tX_12 rfl dPa_packCluster_10 (fun M2 hf => ?_)
  refine x_iconst dPa_packCluster_13 ?_
  refine x_istoren dPa_packCluster_14 (by decide) ?_
  refine x_iconst dPa_packCluster_15 ?_
  refine x_istoren dPa_packCluster_16 (by decide) ?_
  exact x_mask [true, true, true] (wPa_packCluster_17 X FU _ _ _ hf)
theorem kPa_packCluster {l : Launch} (hl : l.stackTraces = false) {M : Mm} (v0 : Int) (M9 : Mm) (hf : fPa_packCluster M = some (v0, M9)) : Ct l yPa_packCluster (rmn 3 70) TX mvX false none [.inr 12] M (0, v0, M9) := ct_of hl (by decide) iPa_packCluster.1 (Nat.le_of_ble_eq_true rfl) (fun X => wPa_packCluster X hf)
def fPa_packContent_86 (M : Mm) : Option (Int × Mm) :=
  mlt (M 12 6) (M 12 3)
    (some (0, M))
    (some (1, M))
def fPa_packContent_36 : Nat → Mm → Option (Int × Mm)
  | 0, _ => none
  | n+1, M =>
    mlt (M 12 4) 11
      (mlt (M 12 6) (M 12 3)
        (mcn (fPa_packCluster M) fun _ M8 =>
        mwr M8 15 11 (M8 12 4) (M8 12 6) fun M9 =>
        mput M9 12 4 ((M9 12 4) + 1) fun M10 =>
        (fPa_packContent_36 n) M10)
        (fPa_packContent_86 M))
      (fPa_packContent_86 M)
def fPa_packContent (x2 : Int) (M : Mm) : Option (Int × Mm) :=
  mcn (fTr_copyContent x2 13 60 M) fun _ M1 =>
  mcn (fTr_contentSize x2 M1) fun v3 M2 =>
  mput M2 12 3 v3 fun M4 =>
  mcn (some (0, fiM M4 14 176 0)) fun _ M5 =>
  mput M5 12 6 0 fun M6 =>
  mput M6 12 4 0 fun M7 =>
  fPa_packContent_36 FU M7
set_option maxRecDepth 10000 in
theorem wPa_packContent_86 {v0 : Int} {M9 : Mm} (X : Cy p l e (rmn 4 92) s m args below meth c D aK TX mvX false a0 "PackedImage$Packer" cPa_packContent 3 (some .boolean) (0, v0, M9)) : ∀ (M : Mm), fPa_packContent_86 M = some (v0, M9) → Wm X 86 [some (.inr 12), none, none] [] M := by
  intro M hf
  unfold fPa_packContent_86 at hf
  refine x_aloadn dPa_packContent_86 rfl ?_
  refine x_getI gPa_41 tX_12 rfl dPa_packContent_87 ?_
  refine x_aloadn dPa_packContent_90 rfl ?_
  refine x_getI gPa_31 tX_12 rfl dPa_packContent_91 ?_
  refine x_lt hf dPa_packContent_94 rfl (fun hf => ?_) (fun hf => ?_)
  · refine x_iconst dPa_packContent_101 ?_
    exact x_zret (rt_n hf) (by decide) rfl dPa_packContent_102
  · refine x_iconst dPa_packContent_97 ?_
    refine x_goto (tgt := 102) dPa_packContent_98 rfl ?_
    exact x_zret (rt_n hf) (by decide) rfl dPa_packContent_102
set_option maxRecDepth 10000 in
theorem wPa_packContent_36 {v0 : Int} {M9 : Mm} (X : Cy p l e (rmn 4 92) s m args below meth c D aK TX mvX false a0 "PackedImage$Packer" cPa_packContent 3 (some .boolean) (0, v0, M9)) : ∀ (n : Nat) (M : Mm), fPa_packContent_36 n M = some (v0, M9) → Wm X 36 [some (.inr 12), none, none] [] M := by
  intro n
  induction n with
  | zero => intro M hf; exact nomatch (show (none : Option (Int × Mm)) = _ from hf)
  | succ n ih =>
    intro M hf
    rw [fPa_packContent_36] at hf
    refine x_aloadn dPa_packContent_36 rfl ?_
    refine x_getI gPa_44 tX_12 rfl dPa_packContent_37 ?_
    refine x_bipush dPa_packContent_40 (by decide) ?_
    refine x_ge hf dPa_packContent_42 rfl (fun hf => ?_) (fun hf => ?_)
    · exact x_mask [true, false, false] (wPa_packContent_86 X _ hf)
    · refine x_aloadn dPa_packContent_45 rfl ?_
      refine x_getI gPa_41 tX_12 rfl dPa_packContent_46 ?_
      refine x_aloadn dPa_packContent_49 rfl ?_
      refine x_getI gPa_31 tX_12 rfl dPa_packContent_50 ?_
      refine x_ge hf dPa_packContent_53 rfl (fun hf => ?_) (fun hf => ?_)
      · exact x_mask [true, false, false] (wPa_packContent_86 X _ hf)
      · refine x_aloadn dPa_packContent_56 rfl ?_
        refine x_cvnv hf (kPa_packCluster X.hst) iPa_packCluster lPa_47 tX_12 rfl rfl (by decide) (Nat.le_of_ble_eq_true rfl) dPa_packContent_57 (fun _ M8 hf => ?_)
        refine x_aloadn dPa_packContent_60 rfl ?_
        refine x_getR gPa_18 tX_12 rfl dPa_packContent_61 ?_
        refine x_aloadn dPa_packContent_64 rfl ?_
        refine x_getI gPa_44 tX_12 rfl dPa_packContent_65 ?_
        refine x_aloadn dPa_packContent_68 rfl ?_
        refine x_getI gPa_41 tX_12 rfl dPa_packContent_69 ?_
        refine x_iast hf tX_15 (by decide) dPa_packContent_72 (fun M9 hf => ?_)
        refine x_aloadn dPa_packContent_73 rfl ?_
        refine x_dup dPa_packContent_74 ?_
        refine x_getI gPa_44 tX_12 rfl dPa_packContent_75 ?_
        refine x_iconst dPa_packContent_78 ?_
        refine x_iadd dPa_packContent_79 ?_
        refine x_put hf gPa_44 pPa_4 tX_12 rfl dPa_packContent_80 (fun M10 hf => ?_)
        refine x_goto (tgt := 36) dPa_packContent_83 rfl ?_
        exact x_mask [true, false, false] (ih _ hf)
set_option maxRecDepth 10000 in
theorem wPa_packContent {v0 : Int} {M9 : Mm} (X : Cy p l e (rmn 4 92) s m args below meth c D aK TX mvX false a0 "PackedImage$Packer" cPa_packContent 3 (some .boolean) (0, v0, M9)) {x2 : Int} {M : Mm} (hf : fPa_packContent x2 M = some (v0, M9)) : Wm X 0 [some (.inr 12), some (.inr 1), some (.inl x2)] [] M := by
  unfold fPa_packContent at hf
  refine x_aloadn dPa_packContent_0 rfl ?_
  refine x_iloadn dPa_packContent_1 rfl ?_
  refine x_aloadn dPa_packContent_2 rfl ?_
  refine x_getR gPa_9 tX_12 rfl dPa_packContent_3 ?_
  refine x_cvnv hf (kTr_copyContent X.hst tX_13 (by decide)) iTr_copyContent lPa_21 tX_1 rfl rfl (by decide) (Nat.le_of_ble_eq_true rfl) dPa_packContent_6 (fun _ M1 hf => ?_)
  refine x_aloadn dPa_packContent_9 rfl ?_
  refine x_aloadn dPa_packContent_10 rfl ?_
  refine x_iloadn dPa_packContent_11 rfl ?_
  refine x_cvni hf (kTr_contentSize X.hst) iTr_contentSize lPa_27 tX_1 rfl rfl (by decide) (Nat.le_of_ble_eq_true rfl) dPa_packContent_12 (fun v3 M2 hf => ?_)
  refine x_put hf gPa_31 pPa_3 tX_12 rfl dPa_packContent_15 (fun M4 hf => ?_)
  refine x_aloadn dPa_packContent_18 rfl ?_
  refine x_getR gPa_15 tX_12 rfl dPa_packContent_19 ?_
  refine x_iconst dPa_packContent_22 ?_
  refine x_csnv (g := some (0, fiM M4 14 176 0)) hf (kfill X.hst tX_14 (by decide)) ifill lPa_35 rfl (by decide) (Nat.le_of_ble_eq_true rfl) dPa_packContent_23 (fun _ M5 hf => ?_)
  refine x_aloadn dPa_packContent_26 rfl ?_
  refine x_iconst dPa_packContent_27 ?_
  refine x_put hf gPa_41 pPa_6 tX_12 rfl dPa_packContent_28 (fun M6 hf => ?_)
  refine x_aloadn dPa_packContent_31 rfl ?_
  refine x_iconst dPa_packContent_32 ?_
  refine x_put hf gPa_44 pPa_4 tX_12 rfl dPa_packContent_33 (fun M7 hf => ?_)
  exact x_mask [true, false, false] (wPa_packContent_36 X FU _ hf)
theorem kPa_packContent {l : Launch} (hl : l.stackTraces = false) {x2 : Int} {M : Mm} (v0 : Int) (M9 : Mm) (hf : fPa_packContent x2 M = some (v0, M9)) : Ct l yPa_packContent (rmn 4 92) TX mvX false (some .boolean) [.inr 12, .inr 1, .inl x2] M (0, v0, M9) := ct_of hl (by decide) iPa_packContent.1 (Nat.le_of_ble_eq_true rfl) (fun X => wPa_packContent X hf)
def fX_blocksFor (x0 : Int) (M : Mm) : Option (Int × Mm) :=
  mdiv ((x0 + 16) - 1) 16 fun v1 =>
  some (v1, M)
set_option maxRecDepth 10000 in
theorem wX_blocksFor {v0 : Int} {M9 : Mm} (X : Cy p l e (rmn 0 0) s m args below meth c D aK TX mvX false a0 "PackedImage" cX_blocksFor 1 (some .int) (0, v0, M9)) {x0 : Int} {M : Mm} (hf : fX_blocksFor x0 M = some (v0, M9)) : Wm X 0 [some (.inl x0)] [] M := by
  unfold fX_blocksFor at hf
  refine x_iloadn dX_blocksFor_0 rfl ?_
  refine x_bipush dX_blocksFor_1 (by decide) ?_
  refine x_iadd dX_blocksFor_3 ?_
  refine x_iconst dX_blocksFor_4 ?_
  refine x_isub dX_blocksFor_5 ?_
  refine x_bipush dX_blocksFor_6 (by decide) ?_
  refine x_idiv hf dX_blocksFor_8 (fun v1 hf => ?_)
  exact x_iret (rt_n hf) rfl dX_blocksFor_9
theorem kX_blocksFor {l : Launch} (hl : l.stackTraces = false) {x0 : Int} {M : Mm} (v0 : Int) (M9 : Mm) (hf : fX_blocksFor x0 M = some (v0, M9)) : Ct l yX_blocksFor (rmn 0 0) TX mvX false (some .int) [.inl x0] M (0, v0, M9) := ct_of hl (by decide) iX_blocksFor.1 (Nat.le_of_ble_eq_true rfl) (fun X => wX_blocksFor X hf)
def fBu_chooseLayout_63 (y3 y5 : Int) (M : Mm) : Option (Int × Mm) :=
  mrem y5 16 fun v4 =>
  meq (y3 % 2) 0
    (some (0, M))
    (mlt 0 v4
      (mlt 12 v4
        (some (0, M))
        (some (1, M)))
      (some (0, M)))
def fBu_chooseLayout_20 (y2 y3 z0 : Int) (M : Mm) : Option (Int × Mm) :=
  mcn (fTr_dataSize y2 M) fun v3 M2 =>
  meq z0 0
    (fBu_chooseLayout_63 y3 v3 M2)
    (mcn (fPa_packContent y2 M2) fun v6 M5 =>
    meq v6 0
      (fBu_chooseLayout_63 y3 v3 M5)
      (mcn (fX_blocksFor v3 M5) fun v8 M7 =>
      mlt (M5 12 4) v8
        (some (2, M7))
        (fBu_chooseLayout_63 y3 v3 M7)))
def fBu_chooseLayout_19 (y2 y3 : Int) (M : Mm) : Option (Int × Mm) :=
  fBu_chooseLayout_20 y2 y3 0 M
def fBu_chooseLayout (x2 : Int) (x3 : Int) (M : Mm) : Option (Int × Mm) :=
  mland x3 4 fun v1 =>
  meq v1 0
    (fBu_chooseLayout_19 x2 x3 M)
    (mcn (fTr_kindOf x2 M) fun v10 M9 =>
    meq v10 1
      (fBu_chooseLayout_20 x2 x3 1 M9)
      (fBu_chooseLayout_19 x2 x3 M9))
set_option maxRecDepth 10000 in
theorem wBu_chooseLayout_63 {v0 : Int} {M9 : Mm} (X : Cy p l e (rmn 5 114) s m args below meth c D aK TX mvX false a0 "PackedImage$Builder" cBu_chooseLayout 7 (some .int) (0, v0, M9)) : ∀ (y3 : Int) (y5 : Int) (M : Mm), fBu_chooseLayout_63 y3 y5 M = some (v0, M9) → Wm X 63 [none, none, none, some (.inl y3), none, some (.inl y5), none] [] M := by
  intro y3 y5 M hf
  unfold fBu_chooseLayout_63 at hf
  refine x_iload dBu_chooseLayout_63 rfl ?_
  refine x_bipush dBu_chooseLayout_65 (by decide) ?_
  refine x_irem hf dBu_chooseLayout_67 (fun v4 hf => ?_)
  refine x_istore dBu_chooseLayout_68 (by decide) ?_
  refine x_iloadn dBu_chooseLayout_70 rfl ?_
  refine x_iconst dBu_chooseLayout_71 ?_
  refine x_iandm (an1 _) dBu_chooseLayout_72 ?_
  refine x_eq0 hf dBu_chooseLayout_73 rfl (fun hf => ?_) (fun hf => ?_)
  · refine x_iconst dBu_chooseLayout_92 ?_
    exact x_iret (rt_n hf) rfl dBu_chooseLayout_93
  · refine x_iload dBu_chooseLayout_76 rfl ?_
    refine x_le0 hf dBu_chooseLayout_78 rfl (fun hf => ?_) (fun hf => ?_)
    · refine x_iconst dBu_chooseLayout_92 ?_
      exact x_iret (rt_n hf) rfl dBu_chooseLayout_93
    · refine x_iload dBu_chooseLayout_81 rfl ?_
      refine x_bipush dBu_chooseLayout_83 (by decide) ?_
      refine x_gt hf dBu_chooseLayout_85 rfl (fun hf => ?_) (fun hf => ?_)
      · refine x_iconst dBu_chooseLayout_92 ?_
        exact x_iret (rt_n hf) rfl dBu_chooseLayout_93
      · refine x_iconst dBu_chooseLayout_88 ?_
        refine x_goto (tgt := 93) dBu_chooseLayout_89 rfl ?_
        exact x_iret (rt_n hf) rfl dBu_chooseLayout_93
set_option maxRecDepth 10000 in
theorem wBu_chooseLayout_20 {v0 : Int} {M9 : Mm} (X : Cy p l e (rmn 5 114) s m args below meth c D aK TX mvX false a0 "PackedImage$Builder" cBu_chooseLayout 7 (some .int) (0, v0, M9)) : ∀ (y2 : Int) (y3 : Int) (z0 : Int) (M : Mm), fBu_chooseLayout_20 y2 y3 z0 M = some (v0, M9) → Wm X 20 [some (.inr 7), some (.inr 1), some (.inl y2), some (.inl y3), none, none, none] [.inl z0] M := by
  intro y2 y3 z0 M hf
  unfold fBu_chooseLayout_20 at hf
  refine x_istore dBu_chooseLayout_20 (by decide) ?_
  refine x_aloadn dBu_chooseLayout_22 rfl ?_
  refine x_iloadn dBu_chooseLayout_23 rfl ?_
  refine x_cvni hf (kTr_dataSize X.hst) iTr_dataSize lBu_78 tX_1 rfl rfl (by decide) (Nat.le_of_ble_eq_true rfl) dBu_chooseLayout_24 (fun v3 M2 hf => ?_)
  refine x_istore dBu_chooseLayout_27 (by decide) ?_
  refine x_iload dBu_chooseLayout_29 rfl ?_
  refine x_eq0 hf dBu_chooseLayout_31 rfl (fun hf => ?_) (fun hf => ?_)
  · exact x_mask [false, false, false, true, false, true, false] (wBu_chooseLayout_63 X _ _ _ hf)
  · refine x_aloadn dBu_chooseLayout_34 rfl ?_
    refine x_getR gBu_31 tX_7 rfl dBu_chooseLayout_35 ?_
    refine x_aloadn dBu_chooseLayout_38 rfl ?_
    refine x_iloadn dBu_chooseLayout_39 rfl ?_
    refine x_cvni hf (kPa_packContent X.hst) iPa_packContent lBu_81 tX_12 rfl rfl (by decide) (Nat.le_of_ble_eq_true rfl) dBu_chooseLayout_40 (fun v6 M5 hf => ?_)
    refine x_eq0 hf dBu_chooseLayout_43 rfl (fun hf => ?_) (fun hf => ?_)
    · exact x_mask [false, false, false, true, false, true, false] (wBu_chooseLayout_63 X _ _ _ hf)
    · refine x_aloadn dBu_chooseLayout_46 rfl ?_
      refine x_getR gBu_31 tX_7 rfl dBu_chooseLayout_47 ?_
      refine x_getI gBu_84 tX_12 rfl dBu_chooseLayout_50 ?_
      refine x_iload dBu_chooseLayout_53 rfl ?_
      refine x_csni hf (kX_blocksFor X.hst) iX_blocksFor lBu_15 rfl (by decide) (Nat.le_of_ble_eq_true rfl) dBu_chooseLayout_55 (fun v8 M7 hf => ?_)
      refine x_ge hf dBu_chooseLayout_58 rfl (fun hf => ?_) (fun hf => ?_)
      · exact x_mask [false, false, false, true, false, true, false] (wBu_chooseLayout_63 X _ _ _ hf)
      · refine x_iconst dBu_chooseLayout_61 ?_
        exact x_iret (rt_n hf) rfl dBu_chooseLayout_62
set_option maxRecDepth 10000 in
theorem wBu_chooseLayout_19 {v0 : Int} {M9 : Mm} (X : Cy p l e (rmn 5 114) s m args below meth c D aK TX mvX false a0 "PackedImage$Builder" cBu_chooseLayout 7 (some .int) (0, v0, M9)) : ∀ (y2 : Int) (y3 : Int) (M : Mm), fBu_chooseLayout_19 y2 y3 M = some (v0, M9) → Wm X 19 [some (.inr 7), some (.inr 1), some (.inl y2), some (.inl y3), none, none, none] [] M := by
  intro y2 y3 M hf
  unfold fBu_chooseLayout_19 at hf
  refine x_iconst dBu_chooseLayout_19 ?_
  exact x_mask [true, true, true, true, false, false, false] (wBu_chooseLayout_20 X _ _ _ _ hf)
set_option maxRecDepth 10000 in
theorem wBu_chooseLayout {v0 : Int} {M9 : Mm} (X : Cy p l e (rmn 5 114) s m args below meth c D aK TX mvX false a0 "PackedImage$Builder" cBu_chooseLayout 7 (some .int) (0, v0, M9)) {x2 : Int} {x3 : Int} {M : Mm} (hf : fBu_chooseLayout x2 x3 M = some (v0, M9)) : Wm X 0 [some (.inr 7), some (.inr 1), some (.inl x2), some (.inl x3), none, none, none] [] M := by
  unfold fBu_chooseLayout at hf
  refine x_iloadn dBu_chooseLayout_0 rfl ?_
  refine x_iconst dBu_chooseLayout_1 ?_
  refine x_iand hf dBu_chooseLayout_2 (fun v1 hf => ?_)
  refine x_eq0 hf dBu_chooseLayout_3 rfl (fun hf => ?_) (fun hf => ?_)
  · exact x_mask [true, true, true, true, false, false, false] (wBu_chooseLayout_19 X _ _ _ hf)
  · refine x_aloadn dBu_chooseLayout_6 rfl ?_
    refine x_iloadn dBu_chooseLayout_7 rfl ?_
    refine x_cvni hf (kTr_kindOf X.hst) iTr_kindOf lBu_75 tX_1 rfl rfl (by decide) (Nat.le_of_ble_eq_true rfl) dBu_chooseLayout_8 (fun v10 M9 hf => ?_)
    refine x_iconst dBu_chooseLayout_11 ?_
    refine x_ne hf dBu_chooseLayout_12 rfl (fun hf => ?_) (fun hf => ?_)
    · exact x_mask [true, true, true, true, false, false, false] (wBu_chooseLayout_19 X _ _ _ hf)
    · refine x_iconst dBu_chooseLayout_15 ?_
      refine x_goto (tgt := 20) dBu_chooseLayout_16 rfl ?_
      exact x_mask [true, true, true, true, false, false, false] (wBu_chooseLayout_20 X _ _ _ _ hf)
theorem kBu_chooseLayout {l : Launch} (hl : l.stackTraces = false) {x2 : Int} {x3 : Int} {M : Mm} (v0 : Int) (M9 : Mm) (hf : fBu_chooseLayout x2 x3 M = some (v0, M9)) : Ct l yBu_chooseLayout (rmn 5 114) TX mvX false (some .int) [.inr 7, .inr 1, .inl x2, .inl x3] M (0, v0, M9) := ct_of hl (by decide) iBu_chooseLayout.1 (Nat.le_of_ble_eq_true rfl) (fun X => wBu_chooseLayout X hf)
def fBu_isLong (x2 : Int) (M : Mm) : Option (Int × Mm) :=
  mrd M 11 16 x2 fun v1 =>
  meq v1 2
    (some (1, M))
    (mrd M 11 16 x2 fun v2 =>
    meq v2 1
      (mcn (fTr_dataSize x2 M) fun v4 M3 =>
      mrem v4 16 fun v5 =>
      mlt 4 v5
        (some (1, M3))
        (some (0, M3)))
      (some (0, M)))
set_option maxRecDepth 10000 in
theorem wBu_isLong {v0 : Int} {M9 : Mm} (X : Cy p l e (rmn 2 45) s m args below meth c D aK TX mvX false a0 "PackedImage$Builder" cBu_isLong 3 (some .boolean) (0, v0, M9)) {x2 : Int} {M : Mm} (hf : fBu_isLong x2 M = some (v0, M9)) : Wm X 0 [some (.inr 7), some (.inr 1), some (.inl x2)] [] M := by
  unfold fBu_isLong at hf
  refine x_aloadn dBu_isLong_0 rfl ?_
  refine x_getR gBu_25 tX_7 rfl dBu_isLong_1 ?_
  refine x_iloadn dBu_isLong_4 rfl ?_
  refine x_iald hf tX_11 (by decide) dBu_isLong_5 (fun v1 hf => ?_)
  refine x_iconst dBu_isLong_6 ?_
  refine x_eq hf dBu_isLong_7 rfl (fun hf => ?_) (fun hf => ?_)
  · refine x_iconst dBu_isLong_32 ?_
    refine x_goto (tgt := 37) dBu_isLong_33 rfl ?_
    exact x_zret (rt_n hf) (by decide) rfl dBu_isLong_37
  · refine x_aloadn dBu_isLong_10 rfl ?_
    refine x_getR gBu_25 tX_7 rfl dBu_isLong_11 ?_
    refine x_iloadn dBu_isLong_14 rfl ?_
    refine x_iald hf tX_11 (by decide) dBu_isLong_15 (fun v2 hf => ?_)
    refine x_iconst dBu_isLong_16 ?_
    refine x_ne hf dBu_isLong_17 rfl (fun hf => ?_) (fun hf => ?_)
    · refine x_iconst dBu_isLong_36 ?_
      exact x_zret (rt_n hf) (by decide) rfl dBu_isLong_37
    · refine x_aloadn dBu_isLong_20 rfl ?_
      refine x_iloadn dBu_isLong_21 rfl ?_
      refine x_cvni hf (kTr_dataSize X.hst) iTr_dataSize lBu_78 tX_1 rfl rfl (by decide) (Nat.le_of_ble_eq_true rfl) dBu_isLong_22 (fun v4 M3 hf => ?_)
      refine x_bipush dBu_isLong_25 (by decide) ?_
      refine x_irem hf dBu_isLong_27 (fun v5 hf => ?_)
      refine x_iconst dBu_isLong_28 ?_
      refine x_le hf dBu_isLong_29 rfl (fun hf => ?_) (fun hf => ?_)
      · refine x_iconst dBu_isLong_36 ?_
        exact x_zret (rt_n hf) (by decide) rfl dBu_isLong_37
      · refine x_iconst dBu_isLong_32 ?_
        refine x_goto (tgt := 37) dBu_isLong_33 rfl ?_
        exact x_zret (rt_n hf) (by decide) rfl dBu_isLong_37
theorem kBu_isLong {l : Launch} (hl : l.stackTraces = false) {x2 : Int} {M : Mm} (v0 : Int) (M9 : Mm) (hf : fBu_isLong x2 M = some (v0, M9)) : Ct l yBu_isLong (rmn 2 45) TX mvX false (some .boolean) [.inr 7, .inr 1, .inl x2] M (0, v0, M9) := ct_of hl (by decide) iBu_isLong.1 (Nat.le_of_ble_eq_true rfl) (fun X => wBu_isLong X hf)
def fBu_giveSlots_7 : Nat → Int → Int → Mm → Option (Int × Mm)
  | 0, _, _, _ => none
  | n+1, y2, y3, M =>
    mlt y3 16
      (mwr M 10 16 y3 (-1) fun M2 =>
      mcn (fTr_countOf y3 M2) fun v4 M3 =>
      mlt 0 v4
        (mcn (fBu_chooseLayout y3 y2 M3) fun v6 M5 =>
        mwr M5 11 16 y3 v6 fun M7 =>
        mwr M7 10 16 y3 (M7 7 5) fun M8 =>
        mcn (fBu_isLong y3 M8) fun v10 M9 =>
        meq v10 0
          (mput M9 7 5 ((M8 7 5) + 1) fun M11 =>
          (fBu_giveSlots_7 n) y2 (y3 + 1) M11)
          (mput M9 7 5 ((M8 7 5) + 2) fun M12 =>
          (fBu_giveSlots_7 n) y2 (y3 + 1) M12))
        ((fBu_giveSlots_7 n) y2 (y3 + 1) M3))
      (some (0, M))
def fBu_giveSlots (x2 : Int) (M : Mm) : Option (Int × Mm) :=
  mput M 7 5 0 fun M1 =>
  fBu_giveSlots_7 FU x2 0 M1
set_option maxRecDepth 10000 in
theorem wBu_giveSlots_7 {v0 : Int} {M9 : Mm} (X : Cy p l e (rmn 6 140) s m args below meth c D aK TX mvX false a0 "PackedImage$Builder" cBu_giveSlots 4 none (0, v0, M9)) : ∀ (n : Nat) (y2 : Int) (y3 : Int) (M : Mm), fBu_giveSlots_7 n y2 y3 M = some (v0, M9) → Wm X 7 [some (.inr 7), some (.inr 1), some (.inl y2), some (.inl y3)] [] M := by
  intro n
  induction n with
  | zero => intro y2 y3 M hf; exact nomatch (show (none : Option (Int × Mm)) = _ from hf)
  | succ n ih =>
    intro y2 y3 M hf
    rw [fBu_giveSlots_7] at hf
    refine x_iloadn dBu_giveSlots_7 rfl ?_
    refine x_bipush dBu_giveSlots_8 (by decide) ?_
    refine x_ge hf dBu_giveSlots_10 rfl (fun hf => ?_) (fun hf => ?_)
    · exact x_vret ⟨_, rt_n hf⟩ rfl dBu_giveSlots_80
    · refine x_aloadn dBu_giveSlots_13 rfl ?_
      refine x_getR gBu_22 tX_7 rfl dBu_giveSlots_14 ?_
      refine x_iloadn dBu_giveSlots_17 rfl ?_
      refine x_iconst dBu_giveSlots_18 ?_
      refine x_iast hf tX_10 (by decide) dBu_giveSlots_19 (fun M2 hf => ?_)
      refine x_aloadn dBu_giveSlots_20 rfl ?_
      refine x_iloadn dBu_giveSlots_21 rfl ?_
      refine x_cvni hf (kTr_countOf X.hst) iTr_countOf lBu_39 tX_1 rfl rfl (by decide) (Nat.le_of_ble_eq_true rfl) dBu_giveSlots_22 (fun v4 M3 hf => ?_)
      refine x_le0 hf dBu_giveSlots_25 rfl (fun hf => ?_) (fun hf => ?_)
      · refine x_iinc dBu_giveSlots_74 rfl (by decide) ?_
        refine x_goto (tgt := 7) dBu_giveSlots_77 rfl ?_
        exact x_mask [true, true, true, true] (ih _ _ _ hf)
      · refine x_aloadn dBu_giveSlots_28 rfl ?_
        refine x_getR gBu_25 tX_7 rfl dBu_giveSlots_29 ?_
        refine x_iloadn dBu_giveSlots_32 rfl ?_
        refine x_aloadn dBu_giveSlots_33 rfl ?_
        refine x_aloadn dBu_giveSlots_34 rfl ?_
        refine x_iloadn dBu_giveSlots_35 rfl ?_
        refine x_iloadn dBu_giveSlots_36 rfl ?_
        refine x_cvni hf (kBu_chooseLayout X.hst) iBu_chooseLayout lBu_44 tX_7 rfl rfl (by decide) (Nat.le_of_ble_eq_true rfl) dBu_giveSlots_37 (fun v6 M5 hf => ?_)
        refine x_iast hf tX_11 (by decide) dBu_giveSlots_40 (fun M7 hf => ?_)
        refine x_aloadn dBu_giveSlots_41 rfl ?_
        refine x_getR gBu_22 tX_7 rfl dBu_giveSlots_42 ?_
        refine x_iloadn dBu_giveSlots_45 rfl ?_
        refine x_aloadn dBu_giveSlots_46 rfl ?_
        refine x_getI gBu_35 tX_7 rfl dBu_giveSlots_47 ?_
        refine x_iast hf tX_10 (by decide) dBu_giveSlots_50 (fun M8 hf => ?_)
        refine x_aloadn dBu_giveSlots_51 rfl ?_
        refine x_dup dBu_giveSlots_52 ?_
        refine x_getI gBu_35 tX_7 rfl dBu_giveSlots_53 ?_
        refine x_aloadn dBu_giveSlots_56 rfl ?_
        refine x_aloadn dBu_giveSlots_57 rfl ?_
        refine x_iloadn dBu_giveSlots_58 rfl ?_
        refine x_cvni hf (kBu_isLong X.hst) iBu_isLong lBu_48 tX_7 rfl rfl (by decide) (Nat.le_of_ble_eq_true rfl) dBu_giveSlots_59 (fun v10 M9 hf => ?_)
        refine x_eq0 hf dBu_giveSlots_62 rfl (fun hf => ?_) (fun hf => ?_)
        · refine x_iconst dBu_giveSlots_69 ?_
          refine x_iadd dBu_giveSlots_70 ?_
          refine x_put hf gBu_35 pBu_5 tX_7 rfl dBu_giveSlots_71 (fun M11 hf => ?_)
          refine x_iinc dBu_giveSlots_74 rfl (by decide) ?_
          refine x_goto (tgt := 7) dBu_giveSlots_77 rfl ?_
          exact x_mask [true, true, true, true] (ih _ _ _ hf)
        · refine x_iconst dBu_giveSlots_65 ?_
          refine x_goto (tgt := 70) dBu_giveSlots_66 rfl ?_
          refine x_iadd dBu_giveSlots_70 ?_
          refine x_put hf gBu_35 pBu_5 tX_7 rfl dBu_giveSlots_71 (fun M12 hf => ?_)
          refine x_iinc dBu_giveSlots_74 rfl (by decide) ?_
          refine x_goto (tgt := 7) dBu_giveSlots_77 rfl ?_
          exact x_mask [true, true, true, true] (ih _ _ _ hf)
set_option maxRecDepth 10000 in
theorem wBu_giveSlots {v0 : Int} {M9 : Mm} (X : Cy p l e (rmn 6 140) s m args below meth c D aK TX mvX false a0 "PackedImage$Builder" cBu_giveSlots 4 none (0, v0, M9)) {x2 : Int} {M : Mm} (hf : fBu_giveSlots x2 M = some (v0, M9)) : Wm X 0 [some (.inr 7), some (.inr 1), some (.inl x2), none] [] M := by
  unfold fBu_giveSlots at hf
  refine x_aloadn dBu_giveSlots_0 rfl ?_
  refine x_iconst dBu_giveSlots_1 ?_
  refine x_put hf gBu_35 pBu_5 tX_7 rfl dBu_giveSlots_2 (fun M1 hf => ?_)
  refine x_iconst dBu_giveSlots_5 ?_
  refine x_istoren dBu_giveSlots_6 (by decide) ?_
  exact x_mask [true, true, true, true] (wBu_giveSlots_7 X FU _ _ _ hf)
theorem kBu_giveSlots {l : Launch} (hl : l.stackTraces = false) {x2 : Int} {M : Mm} (v0 : Int) (M9 : Mm) (hf : fBu_giveSlots x2 M = some (v0, M9)) : Ct l yBu_giveSlots (rmn 6 140) TX mvX false none [.inr 7, .inr 1, .inl x2] M (0, v0, M9) := ct_of hl (by decide) iBu_giveSlots.1 (Nat.le_of_ble_eq_true rfl) (fun X => wBu_giveSlots X hf)
def fX_firstBlockBehind (x0 : Int) (M : Mm) : Option (Int × Mm) :=
  mcn (fX_blocksFor (16 + (x0 * 8)) M) fun v2 M1 =>
  some (v2, M1)
set_option maxRecDepth 10000 in
theorem wX_firstBlockBehind {v0 : Int} {M9 : Mm} (X : Cy p l e (rmn 1 20) s m args below meth c D aK TX mvX false a0 "PackedImage" cX_firstBlockBehind 1 (some .int) (0, v0, M9)) {x0 : Int} {M : Mm} (hf : fX_firstBlockBehind x0 M = some (v0, M9)) : Wm X 0 [some (.inl x0)] [] M := by
  unfold fX_firstBlockBehind at hf
  refine x_bipush dX_firstBlockBehind_0 (by decide) ?_
  refine x_iloadn dX_firstBlockBehind_2 rfl ?_
  refine x_bipush dX_firstBlockBehind_3 (by decide) ?_
  refine x_imul dX_firstBlockBehind_5 ?_
  refine x_iadd dX_firstBlockBehind_6 ?_
  refine x_csni hf (kX_blocksFor X.hst) iX_blocksFor lX_242 rfl (by decide) (Nat.le_of_ble_eq_true rfl) dX_firstBlockBehind_7 (fun v2 M1 hf => ?_)
  exact x_iret (rt_n hf) rfl dX_firstBlockBehind_10
theorem kX_firstBlockBehind {l : Launch} (hl : l.stackTraces = false) {x0 : Int} {M : Mm} (v0 : Int) (M9 : Mm) (hf : fX_firstBlockBehind x0 M = some (v0, M9)) : Ct l yX_firstBlockBehind (rmn 1 20) TX mvX false (some .int) [.inl x0] M (0, v0, M9) := ct_of hl (by decide) iX_firstBlockBehind.1 (Nat.le_of_ble_eq_true rfl) (fun X => wX_firstBlockBehind X hf)
def fBu_putEnds (x1 : Int) (M : Mm) : Option (Int × Mm) :=
  mwr M 8 1024 x1 (M 12 4) fun M1 =>
  mcp M1 15 11 0 8 1024 (x1 + 1) (M1 12 4) fun M2 =>
  some (0, M2)
set_option maxRecDepth 10000 in
theorem wBu_putEnds {v0 : Int} {M9 : Mm} (X : Cy p l e (rmn 1 48) s m args below meth c D aK TX mvX false a0 "PackedImage$Builder" cBu_putEnds 2 none (0, v0, M9)) {x1 : Int} {M : Mm} (hf : fBu_putEnds x1 M = some (v0, M9)) : Wm X 0 [some (.inr 7), some (.inl x1)] [] M := by
  unfold fBu_putEnds at hf
  refine x_aloadn dBu_putEnds_0 rfl ?_
  refine x_getR gBu_9 tX_7 rfl dBu_putEnds_1 ?_
  refine x_iloadn dBu_putEnds_4 rfl ?_
  refine x_aloadn dBu_putEnds_5 rfl ?_
  refine x_getR gBu_31 tX_7 rfl dBu_putEnds_6 ?_
  refine x_getI gBu_84 tX_12 rfl dBu_putEnds_9 ?_
  refine x_iast hf tX_8 (by decide) dBu_putEnds_12 (fun M1 hf => ?_)
  refine x_aloadn dBu_putEnds_13 rfl ?_
  refine x_getR gBu_31 tX_7 rfl dBu_putEnds_14 ?_
  refine x_getR gBu_105 tX_12 rfl dBu_putEnds_17 ?_
  refine x_iconst dBu_putEnds_20 ?_
  refine x_aloadn dBu_putEnds_21 rfl ?_
  refine x_getR gBu_9 tX_7 rfl dBu_putEnds_22 ?_
  refine x_iloadn dBu_putEnds_25 rfl ?_
  refine x_iconst dBu_putEnds_26 ?_
  refine x_iadd dBu_putEnds_27 ?_
  refine x_aloadn dBu_putEnds_28 rfl ?_
  refine x_getR gBu_31 tX_7 rfl dBu_putEnds_29 ?_
  refine x_getI gBu_84 tX_12 rfl dBu_putEnds_32 ?_
  refine x_copy hf tX_15 tX_8 ⟨(by decide), (by decide)⟩ lBu_108 mw_cpy ⟨Nat.le_of_ble_eq_true rfl, Nat.le_of_ble_eq_true rfl⟩ dBu_putEnds_35 (fun M2 hf => ?_)
  exact x_vret ⟨_, rt_n hf⟩ rfl dBu_putEnds_38
theorem kBu_putEnds {l : Launch} (hl : l.stackTraces = false) {x1 : Int} {M : Mm} (v0 : Int) (M9 : Mm) (hf : fBu_putEnds x1 M = some (v0, M9)) : Ct l yBu_putEnds (rmn 1 48) TX mvX false none [.inr 7, .inl x1] M (0, v0, M9) := ct_of hl (by decide) iBu_putEnds.1 (Nat.le_of_ble_eq_true rfl) (fun X => wBu_putEnds X hf)
def fBu_isThere_3 (k1 n1 : Nat) : Nat → Int → Int → Int → Mm → Option (Int × Mm)
  | 0, _, _, _, _ => none
  | n+1, y2, y3, y4, M =>
    mlt y4 (y2 * 16)
      (mrd M 8 1024 ((y3 * 16) + y4) fun v1 =>
      mrd M k1 n1 y4 fun v2 =>
      meq v1 v2
        ((fBu_isThere_3 k1 n1 n) y2 y3 (y4 + 1) M)
        (some (0, M)))
      (some (1, M))
def fBu_isThere (k1 n1 : Nat) (x2 : Int) (x3 : Int) (M : Mm) : Option (Int × Mm) :=
  fBu_isThere_3 k1 n1 FU x2 x3 0 M
set_option maxRecDepth 10000 in
theorem wBu_isThere_3 {v0 : Int} {M9 : Mm} (X : Cy p l e (rmn 0 0) s m args below meth c D aK TX mvX false a0 "PackedImage$Builder" cBu_isThere 5 (some .boolean) (0, v0, M9)) {k1 n1 : Nat} (hk1 : TX[k1]? = some (.inr (0, n1))) (hn1 : n1 < 2147483648) : ∀ (n : Nat) (y2 : Int) (y3 : Int) (y4 : Int) (M : Mm), fBu_isThere_3 k1 n1 n y2 y3 y4 M = some (v0, M9) → Wm X 3 [some (.inr 7), some (.inr k1), some (.inl y2), some (.inl y3), some (.inl y4)] [] M := by
  intro n
  induction n with
  | zero => intro y2 y3 y4 M hf; exact nomatch (show (none : Option (Int × Mm)) = _ from hf)
  | succ n ih =>
    intro y2 y3 y4 M hf
    rw [fBu_isThere_3] at hf
    refine x_iload dBu_isThere_3 rfl ?_
    refine x_iloadn dBu_isThere_5 rfl ?_
    refine x_bipush dBu_isThere_6 (by decide) ?_
    refine x_imul dBu_isThere_8 ?_
    refine x_ge hf dBu_isThere_9 rfl (fun hf => ?_) (fun hf => ?_)
    · refine x_iconst dBu_isThere_39 ?_
      exact x_zret (rt_n hf) (by decide) rfl dBu_isThere_40
    · refine x_aloadn dBu_isThere_12 rfl ?_
      refine x_getR gBu_9 tX_7 rfl dBu_isThere_13 ?_
      refine x_iloadn dBu_isThere_16 rfl ?_
      refine x_bipush dBu_isThere_17 (by decide) ?_
      refine x_imul dBu_isThere_19 ?_
      refine x_iload dBu_isThere_20 rfl ?_
      refine x_iadd dBu_isThere_22 ?_
      refine x_iald hf tX_8 (by decide) dBu_isThere_23 (fun v1 hf => ?_)
      refine x_aloadn dBu_isThere_24 rfl ?_
      refine x_iload dBu_isThere_25 rfl ?_
      refine x_iald hf hk1 hn1 dBu_isThere_27 (fun v2 hf => ?_)
      refine x_eq hf dBu_isThere_28 rfl (fun hf => ?_) (fun hf => ?_)
      · refine x_iinc dBu_isThere_33 rfl (by decide) ?_
        refine x_goto (tgt := 3) dBu_isThere_36 rfl ?_
        exact x_mask [true, true, true, true, true] (ih _ _ _ _ hf)
      · refine x_iconst dBu_isThere_31 ?_
        exact x_zret (rt_n hf) (by decide) rfl dBu_isThere_32
set_option maxRecDepth 10000 in
theorem wBu_isThere {v0 : Int} {M9 : Mm} (X : Cy p l e (rmn 0 0) s m args below meth c D aK TX mvX false a0 "PackedImage$Builder" cBu_isThere 5 (some .boolean) (0, v0, M9)) {k1 n1 : Nat} (hk1 : TX[k1]? = some (.inr (0, n1))) (hn1 : n1 < 2147483648) {x2 : Int} {x3 : Int} {M : Mm} (hf : fBu_isThere k1 n1 x2 x3 M = some (v0, M9)) : Wm X 0 [some (.inr 7), some (.inr k1), some (.inl x2), some (.inl x3), none] [] M := by
  unfold fBu_isThere at hf
  refine x_iconst dBu_isThere_0 ?_
  refine x_istore dBu_isThere_1 (by decide) ?_
  exact x_mask [true, true, true, true, true] (wBu_isThere_3 X hk1 hn1 FU _ _ _ _ hf)
theorem kBu_isThere {l : Launch} (hl : l.stackTraces = false) {k1 n1 : Nat} (hk1 : TX[k1]? = some (.inr (0, n1))) (hn1 : n1 < 2147483648) {x2 : Int} {x3 : Int} {M : Mm} (v0 : Int) (M9 : Mm) (hf : fBu_isThere k1 n1 x2 x3 M = some (v0, M9)) : Ct l yBu_isThere (rmn 0 0) TX mvX false (some .boolean) [.inr 7, .inr k1, .inl x2, .inl x3] M (0, v0, M9) := ct_of hl (by decide) iBu_isThere.1 (Nat.le_of_ble_eq_true rfl) (fun X => wBu_isThere X hk1 hn1 hf)
def fBu_settle_49 (k1 n1 : Nat) (y2 : Int) (M : Mm) : Option (Int × Mm) :=
  mlt 64 ((M 7 7) + y2)
    (some ((-1), M))
    (mcp M k1 n1 0 8 1024 ((M 7 7) * 16) (y2 * 16) fun M2 =>
    mput M2 7 7 ((M2 7 7) + y2) fun M3 =>
    some ((M 7 7), M3))
def fBu_settle_18 (k1 n1 : Nat) : Nat → Int → Int → Mm → Option (Int × Mm)
  | 0, _, _, _ => none
  | n+1, y2, y4, M =>
    mlt (M 7 7) (y4 + y2)
      (fBu_settle_49 k1 n1 y2 M)
      (mcn (fBu_isThere k1 n1 y2 y4 M) fun v5 M4 =>
      meq v5 0
        ((fBu_settle_18 k1 n1 n) y2 (y4 + 1) M4)
        (some (y4, M4)))
def fBu_settle (k1 n1 : Nat) (x2 : Int) (x3 : Int) (M : Mm) : Option (Int × Mm) :=
  meq x2 0
    (some (0, M))
    (mland x3 2 fun v1 =>
    meq v1 0
      (fBu_settle_49 k1 n1 x2 M)
      (fBu_settle_18 k1 n1 FU x2 (M 7 6) M))
set_option maxRecDepth 10000 in
theorem wBu_settle_49 {v0 : Int} {M9 : Mm} (X : Cy p l e (rmn 1 48) s m args below meth c D aK TX mvX false a0 "PackedImage$Builder" cBu_settle 5 (some .int) (0, v0, M9)) {k1 n1 : Nat} (hk1 : TX[k1]? = some (.inr (0, n1))) (hn1 : n1 < 2147483648) : ∀ (y2 : Int) (M : Mm), fBu_settle_49 k1 n1 y2 M = some (v0, M9) → Wm X 49 [some (.inr 7), some (.inr k1), some (.inl y2), none, none] [] M := by
  intro y2 M hf
  unfold fBu_settle_49 at hf
  refine x_aloadn dBu_settle_49 rfl ?_
  refine x_getI gBu_64 tX_7 rfl dBu_settle_50 ?_
  refine x_iloadn dBu_settle_53 rfl ?_
  refine x_iadd dBu_settle_54 ?_
  refine x_bipush dBu_settle_55 (by decide) ?_
  refine x_le hf dBu_settle_57 rfl (fun hf => ?_) (fun hf => ?_)
  · refine x_aloadn dBu_settle_62 rfl ?_
    refine x_getI gBu_64 tX_7 rfl dBu_settle_63 ?_
    refine x_istore dBu_settle_66 (by decide) ?_
    refine x_aloadn dBu_settle_68 rfl ?_
    refine x_iconst dBu_settle_69 ?_
    refine x_aloadn dBu_settle_70 rfl ?_
    refine x_getR gBu_9 tX_7 rfl dBu_settle_71 ?_
    refine x_iload dBu_settle_74 rfl ?_
    refine x_bipush dBu_settle_76 (by decide) ?_
    refine x_imul dBu_settle_78 ?_
    refine x_iloadn dBu_settle_79 rfl ?_
    refine x_bipush dBu_settle_80 (by decide) ?_
    refine x_imul dBu_settle_82 ?_
    refine x_copy hf hk1 tX_8 ⟨hn1, (by decide)⟩ lBu_108 mw_cpy ⟨Nat.le_of_ble_eq_true rfl, Nat.le_of_ble_eq_true rfl⟩ dBu_settle_83 (fun M2 hf => ?_)
    refine x_aloadn dBu_settle_86 rfl ?_
    refine x_dup dBu_settle_87 ?_
    refine x_getI gBu_64 tX_7 rfl dBu_settle_88 ?_
    refine x_iloadn dBu_settle_91 rfl ?_
    refine x_iadd dBu_settle_92 ?_
    refine x_put hf gBu_64 pBu_7 tX_7 rfl dBu_settle_93 (fun M3 hf => ?_)
    refine x_iload dBu_settle_96 rfl ?_
    exact x_iret (rt_n hf) rfl dBu_settle_98
  · refine x_iconst dBu_settle_60 ?_
    exact x_iret (rt_n hf) rfl dBu_settle_61
set_option maxRecDepth 10000 in
theorem wBu_settle_18 {v0 : Int} {M9 : Mm} (X : Cy p l e (rmn 1 48) s m args below meth c D aK TX mvX false a0 "PackedImage$Builder" cBu_settle 5 (some .int) (0, v0, M9)) {k1 n1 : Nat} (hk1 : TX[k1]? = some (.inr (0, n1))) (hn1 : n1 < 2147483648) : ∀ (n : Nat) (y2 : Int) (y4 : Int) (M : Mm), fBu_settle_18 k1 n1 n y2 y4 M = some (v0, M9) → Wm X 18 [some (.inr 7), some (.inr k1), some (.inl y2), none, some (.inl y4)] [] M := by
  intro n
  induction n with
  | zero => intro y2 y4 M hf; exact nomatch (show (none : Option (Int × Mm)) = _ from hf)
  | succ n ih =>
    intro y2 y4 M hf
    rw [fBu_settle_18] at hf
    refine x_iload dBu_settle_18 rfl ?_
    refine x_iloadn dBu_settle_20 rfl ?_
    refine x_iadd dBu_settle_21 ?_
    refine x_aloadn dBu_settle_22 rfl ?_
    refine x_getI gBu_64 tX_7 rfl dBu_settle_23 ?_
    refine x_gt hf dBu_settle_26 rfl (fun hf => ?_) (fun hf => ?_)
    · exact x_mask [true, true, true, false, false] (wBu_settle_49 X hk1 hn1 _ _ hf)
    · refine x_aloadn dBu_settle_29 rfl ?_
      refine x_aloadn dBu_settle_30 rfl ?_
      refine x_iloadn dBu_settle_31 rfl ?_
      refine x_iload dBu_settle_32 rfl ?_
      refine x_cvni hf (kBu_isThere X.hst hk1 hn1) iBu_isThere lBu_125 tX_7 rfl rfl (by decide) (Nat.le_of_ble_eq_true rfl) dBu_settle_34 (fun v5 M4 hf => ?_)
      refine x_eq0 hf dBu_settle_37 rfl (fun hf => ?_) (fun hf => ?_)
      · refine x_iinc dBu_settle_43 rfl (by decide) ?_
        refine x_goto (tgt := 18) dBu_settle_46 rfl ?_
        exact x_mask [true, true, true, false, true] (ih _ _ _ hf)
      · refine x_iload dBu_settle_40 rfl ?_
        exact x_iret (rt_n hf) rfl dBu_settle_42
set_option maxRecDepth 10000 in
theorem wBu_settle {v0 : Int} {M9 : Mm} (X : Cy p l e (rmn 1 48) s m args below meth c D aK TX mvX false a0 "PackedImage$Builder" cBu_settle 5 (some .int) (0, v0, M9)) {k1 n1 : Nat} (hk1 : TX[k1]? = some (.inr (0, n1))) (hn1 : n1 < 2147483648) {x2 : Int} {x3 : Int} {M : Mm} (hf : fBu_settle k1 n1 x2 x3 M = some (v0, M9)) : Wm X 0 [some (.inr 7), some (.inr k1), some (.inl x2), some (.inl x3), none] [] M := by
  unfold fBu_settle at hf
  refine x_iloadn dBu_settle_0 rfl ?_
  refine x_ne0 hf dBu_settle_1 rfl (fun hf => ?_) (fun hf => ?_)
  · refine x_iloadn dBu_settle_6 rfl ?_
    refine x_iconst dBu_settle_7 ?_
    refine x_iand hf dBu_settle_8 (fun v1 hf => ?_)
    refine x_eq0 hf dBu_settle_9 rfl (fun hf => ?_) (fun hf => ?_)
    · exact x_mask [true, true, true, false, false] (wBu_settle_49 X hk1 hn1 _ _ hf)
    · refine x_aloadn dBu_settle_12 rfl ?_
      refine x_getI gBu_61 tX_7 rfl dBu_settle_13 ?_
      refine x_istore dBu_settle_16 (by decide) ?_
      exact x_mask [true, true, true, false, true] (wBu_settle_18 X hk1 hn1 FU _ _ _ hf)
  · refine x_iconst dBu_settle_4 ?_
    exact x_iret (rt_n hf) rfl dBu_settle_5
theorem kBu_settle {l : Launch} (hl : l.stackTraces = false) {k1 n1 : Nat} (hk1 : TX[k1]? = some (.inr (0, n1))) (hn1 : n1 < 2147483648) {x2 : Int} {x3 : Int} {M : Mm} (v0 : Int) (M9 : Mm) (hf : fBu_settle k1 n1 x2 x3 M = some (v0, M9)) : Ct l yBu_settle (rmn 1 48) TX mvX false (some .int) [.inr 7, .inr k1, .inl x2, .inl x3] M (0, v0, M9) := ct_of hl (by decide) iBu_settle.1 (Nat.le_of_ble_eq_true rfl) (fun X => wBu_settle X hk1 hn1 hf)
def fBu_fillEntries_5 : Nat → Int → Int → Int → Mm → Option (Int × Mm)
  | 0, _, _, _, _ => none
  | n+1, y2, y3, y4, M =>
    mlt y4 26
      (mcn (fTr_nodeAt y2 y4 M) fun v2 M1 =>
      meq v2 (-1)
        ((fBu_fillEntries_5 n) y2 y3 (y4 + 1) M1)
        (mwr M1 9 80 y3 (97 + y4) fun M3 =>
        mrd M3 10 16 v2 fun v4 =>
        mwr M3 9 80 (y3 + 1) v4 fun M5 =>
        mcn (fTr_kindOf v2 M5) fun v7 M6 =>
        mwr M6 9 80 (y3 + 2) v7 fun M8 =>
        (fBu_fillEntries_5 n) y2 (y3 + 3) (y4 + 1) M8))
      (some (0, M))
def fBu_fillEntries (x2 : Int) (M : Mm) : Option (Int × Mm) :=
  fBu_fillEntries_5 FU x2 0 0 M
set_option maxRecDepth 10000 in
theorem wBu_fillEntries_5 {v0 : Int} {M9 : Mm} (X : Cy p l e (rmn 1 22) s m args below meth c D aK TX mvX false a0 "PackedImage$Builder" cBu_fillEntries 6 none (0, v0, M9)) : ∀ (n : Nat) (y2 : Int) (y3 : Int) (y4 : Int) (M : Mm), fBu_fillEntries_5 n y2 y3 y4 M = some (v0, M9) → Wm X 5 [some (.inr 7), some (.inr 1), some (.inl y2), some (.inl y3), some (.inl y4), none] [] M := by
  intro n
  induction n with
  | zero => intro y2 y3 y4 M hf; exact nomatch (show (none : Option (Int × Mm)) = _ from hf)
  | succ n ih =>
    intro y2 y3 y4 M hf
    rw [fBu_fillEntries_5] at hf
    refine x_iload dBu_fillEntries_5 rfl ?_
    refine x_bipush dBu_fillEntries_7 (by decide) ?_
    refine x_ge hf dBu_fillEntries_9 rfl (fun hf => ?_) (fun hf => ?_)
    · exact x_vret ⟨_, rt_n hf⟩ rfl dBu_fillEntries_76
    · refine x_aloadn dBu_fillEntries_12 rfl ?_
      refine x_iloadn dBu_fillEntries_13 rfl ?_
      refine x_iload dBu_fillEntries_14 rfl ?_
      refine x_cvni hf (kTr_nodeAt X.hst) iTr_nodeAt lBu_121 tX_1 rfl rfl (by decide) (Nat.le_of_ble_eq_true rfl) dBu_fillEntries_16 (fun v2 M1 hf => ?_)
      refine x_istore dBu_fillEntries_19 (by decide) ?_
      refine x_iload dBu_fillEntries_21 rfl ?_
      refine x_iconst dBu_fillEntries_23 ?_
      refine x_eq hf dBu_fillEntries_24 rfl (fun hf => ?_) (fun hf => ?_)
      · refine x_iinc dBu_fillEntries_70 rfl (by decide) ?_
        refine x_goto (tgt := 5) dBu_fillEntries_73 rfl ?_
        exact x_mask [true, true, true, true, true, false] (ih _ _ _ _ hf)
      · refine x_aloadn dBu_fillEntries_27 rfl ?_
        refine x_getR gBu_19 tX_7 rfl dBu_fillEntries_28 ?_
        refine x_iloadn dBu_fillEntries_31 rfl ?_
        refine x_bipush dBu_fillEntries_32 (by decide) ?_
        refine x_iload dBu_fillEntries_34 rfl ?_
        refine x_iadd dBu_fillEntries_36 ?_
        refine x_iast hf tX_9 (by decide) dBu_fillEntries_37 (fun M3 hf => ?_)
        refine x_aloadn dBu_fillEntries_38 rfl ?_
        refine x_getR gBu_19 tX_7 rfl dBu_fillEntries_39 ?_
        refine x_iloadn dBu_fillEntries_42 rfl ?_
        refine x_iconst dBu_fillEntries_43 ?_
        refine x_iadd dBu_fillEntries_44 ?_
        refine x_aloadn dBu_fillEntries_45 rfl ?_
        refine x_getR gBu_22 tX_7 rfl dBu_fillEntries_46 ?_
        refine x_iload dBu_fillEntries_49 rfl ?_
        refine x_iald hf tX_10 (by decide) dBu_fillEntries_51 (fun v4 hf => ?_)
        refine x_iast hf tX_9 (by decide) dBu_fillEntries_52 (fun M5 hf => ?_)
        refine x_aloadn dBu_fillEntries_53 rfl ?_
        refine x_getR gBu_19 tX_7 rfl dBu_fillEntries_54 ?_
        refine x_iloadn dBu_fillEntries_57 rfl ?_
        refine x_iconst dBu_fillEntries_58 ?_
        refine x_iadd dBu_fillEntries_59 ?_
        refine x_aloadn dBu_fillEntries_60 rfl ?_
        refine x_iload dBu_fillEntries_61 rfl ?_
        refine x_cvni hf (kTr_kindOf X.hst) iTr_kindOf lBu_75 tX_1 rfl rfl (by decide) (Nat.le_of_ble_eq_true rfl) dBu_fillEntries_63 (fun v7 M6 hf => ?_)
        refine x_iast hf tX_9 (by decide) dBu_fillEntries_66 (fun M8 hf => ?_)
        refine x_iinc dBu_fillEntries_67 rfl (by decide) ?_
        refine x_iinc dBu_fillEntries_70 rfl (by decide) ?_
        refine x_goto (tgt := 5) dBu_fillEntries_73 rfl ?_
        exact x_mask [true, true, true, true, true, false] (ih _ _ _ _ hf)
set_option maxRecDepth 10000 in
theorem wBu_fillEntries {v0 : Int} {M9 : Mm} (X : Cy p l e (rmn 1 22) s m args below meth c D aK TX mvX false a0 "PackedImage$Builder" cBu_fillEntries 6 none (0, v0, M9)) {x2 : Int} {M : Mm} (hf : fBu_fillEntries x2 M = some (v0, M9)) : Wm X 0 [some (.inr 7), some (.inr 1), some (.inl x2), none, none, none] [] M := by
  unfold fBu_fillEntries at hf
  refine x_iconst dBu_fillEntries_0 ?_
  refine x_istoren dBu_fillEntries_1 (by decide) ?_
  refine x_iconst dBu_fillEntries_2 ?_
  refine x_istore dBu_fillEntries_3 (by decide) ?_
  exact x_mask [true, true, true, true, true, false] (wBu_fillEntries_5 X FU _ _ _ _ hf)
theorem kBu_fillEntries {l : Launch} (hl : l.stackTraces = false) {x2 : Int} {M : Mm} (v0 : Int) (M9 : Mm) (hf : fBu_fillEntries x2 M = some (v0, M9)) : Ct l yBu_fillEntries (rmn 1 22) TX mvX false none [.inr 7, .inr 1, .inl x2] M (0, v0, M9) := ct_of hl (by decide) iBu_fillEntries.1 (Nat.le_of_ble_eq_true rfl) (fun X => wBu_fillEntries X hf)
def fBu_fillData (x2 : Int) (M : Mm) : Option (Int × Mm) :=
  mcn (some (0, fiM M 9 80 0)) fun _ M1 =>
  mcn (fTr_kindOf x2 M1) fun v3 M2 =>
  meq v3 0
    (mcn (fBu_fillEntries x2 M2) fun _ M5 =>
    some (0, M5))
    (mcn (fTr_copyContent x2 9 80 M2) fun _ M4 =>
    some (0, M4))
set_option maxRecDepth 10000 in
theorem wBu_fillData {v0 : Int} {M9 : Mm} (X : Cy p l e (rmn 2 70) s m args below meth c D aK TX mvX false a0 "PackedImage$Builder" cBu_fillData 3 none (0, v0, M9)) {x2 : Int} {M : Mm} (hf : fBu_fillData x2 M = some (v0, M9)) : Wm X 0 [some (.inr 7), some (.inr 1), some (.inl x2)] [] M := by
  unfold fBu_fillData at hf
  refine x_aloadn dBu_fillData_0 rfl ?_
  refine x_getR gBu_19 tX_7 rfl dBu_fillData_1 ?_
  refine x_iconst dBu_fillData_4 ?_
  refine x_csnv (g := some (0, fiM M 9 80 0)) hf (kfill X.hst tX_9 (by decide)) ifill lBu_52 rfl (by decide) (Nat.le_of_ble_eq_true rfl) dBu_fillData_5 (fun _ M1 hf => ?_)
  refine x_aloadn dBu_fillData_8 rfl ?_
  refine x_iloadn dBu_fillData_9 rfl ?_
  refine x_cvni hf (kTr_kindOf X.hst) iTr_kindOf lBu_75 tX_1 rfl rfl (by decide) (Nat.le_of_ble_eq_true rfl) dBu_fillData_10 (fun v3 M2 hf => ?_)
  refine x_ne0 hf dBu_fillData_13 rfl (fun hf => ?_) (fun hf => ?_)
  · refine x_aloadn dBu_fillData_25 rfl ?_
    refine x_iloadn dBu_fillData_26 rfl ?_
    refine x_aloadn dBu_fillData_27 rfl ?_
    refine x_getR gBu_19 tX_7 rfl dBu_fillData_28 ?_
    refine x_cvnv hf (kTr_copyContent X.hst tX_9 (by decide)) iTr_copyContent lBu_117 tX_1 rfl rfl (by decide) (Nat.le_of_ble_eq_true rfl) dBu_fillData_31 (fun _ M4 hf => ?_)
    exact x_vret ⟨_, rt_n hf⟩ rfl dBu_fillData_34
  · refine x_aloadn dBu_fillData_16 rfl ?_
    refine x_aloadn dBu_fillData_17 rfl ?_
    refine x_iloadn dBu_fillData_18 rfl ?_
    refine x_cvnv hf (kBu_fillEntries X.hst) iBu_fillEntries lBu_114 tX_7 rfl rfl (by decide) (Nat.le_of_ble_eq_true rfl) dBu_fillData_19 (fun _ M5 hf => ?_)
    refine x_goto (tgt := 34) dBu_fillData_22 rfl ?_
    exact x_vret ⟨_, rt_n hf⟩ rfl dBu_fillData_34
theorem kBu_fillData {l : Launch} (hl : l.stackTraces = false) {x2 : Int} {M : Mm} (v0 : Int) (M9 : Mm) (hf : fBu_fillData x2 M = some (v0, M9)) : Ct l yBu_fillData (rmn 2 70) TX mvX false none [.inr 7, .inr 1, .inl x2] M (0, v0, M9) := ct_of hl (by decide) iBu_fillData.1 (Nat.le_of_ble_eq_true rfl) (fun X => wBu_fillData X hf)
def fBu_putTail (x1 : Int) (x2 : Int) (M : Mm) : Option (Int × Mm) :=
  mrem x2 16 fun v1 =>
  mcp M 9 80 (x2 - v1) 8 1024 x1 v1 fun M2 =>
  some (0, M2)
set_option maxRecDepth 10000 in
theorem wBu_putTail {v0 : Int} {M9 : Mm} (X : Cy p l e (rmn 1 48) s m args below meth c D aK TX mvX false a0 "PackedImage$Builder" cBu_putTail 4 none (0, v0, M9)) {x1 : Int} {x2 : Int} {M : Mm} (hf : fBu_putTail x1 x2 M = some (v0, M9)) : Wm X 0 [some (.inr 7), some (.inl x1), some (.inl x2), none] [] M := by
  unfold fBu_putTail at hf
  refine x_iloadn dBu_putTail_0 rfl ?_
  refine x_bipush dBu_putTail_1 (by decide) ?_
  refine x_irem hf dBu_putTail_3 (fun v1 hf => ?_)
  refine x_istoren dBu_putTail_4 (by decide) ?_
  refine x_aloadn dBu_putTail_5 rfl ?_
  refine x_getR gBu_19 tX_7 rfl dBu_putTail_6 ?_
  refine x_iloadn dBu_putTail_9 rfl ?_
  refine x_iloadn dBu_putTail_10 rfl ?_
  refine x_isub dBu_putTail_11 ?_
  refine x_aloadn dBu_putTail_12 rfl ?_
  refine x_getR gBu_9 tX_7 rfl dBu_putTail_13 ?_
  refine x_iloadn dBu_putTail_16 rfl ?_
  refine x_iloadn dBu_putTail_17 rfl ?_
  refine x_copy hf tX_9 tX_8 ⟨(by decide), (by decide)⟩ lBu_108 mw_cpy ⟨Nat.le_of_ble_eq_true rfl, Nat.le_of_ble_eq_true rfl⟩ dBu_putTail_18 (fun M2 hf => ?_)
  exact x_vret ⟨_, rt_n hf⟩ rfl dBu_putTail_21
theorem kBu_putTail {l : Launch} (hl : l.stackTraces = false) {x1 : Int} {x2 : Int} {M : Mm} (v0 : Int) (M9 : Mm) (hf : fBu_putTail x1 x2 M = some (v0, M9)) : Ct l yBu_putTail (rmn 1 48) TX mvX false none [.inr 7, .inl x1, .inl x2] M (0, v0, M9) := ct_of hl (by decide) iBu_putTail.1 (Nat.le_of_ble_eq_true rfl) (fun X => wBu_putTail X hf)
end WK
