section WK
variable {p : Program} {l : Launch} {e : Env} {s : State} {m : MethodId} {args : Array Value} {below : List Frame} {meth : Method} {c : Code} {D : va_G} {aK : Nat → ClassId} {a0 : Nat → Nat}
def fDe_clusterWith_2 : Nat → Int → Int → Int → Mm → Option (Int × Mm)
  | 0, _, _, _, _ => none
  | n+1, y1, y2, y3, M =>
    mlt y3 10
      (mcn (fDe_clusterEnd y1 y3 M) fun v2 M1 =>
      mlt y2 v2
        (some (y3, M1))
        ((fDe_clusterWith_2 n) y1 y2 (y3 + 1) M1))
      (some (y3, M))
def fDe_clusterWith (x1 : Int) (x2 : Int) (M : Mm) : Option (Int × Mm) :=
  fDe_clusterWith_2 FU x1 x2 0 M
set_option maxRecDepth 10000 in
theorem wDe_clusterWith_2 {v0 : Int} {M9 : Mm} (X : Cy p l e (rmn 2 45) s m args below meth c D aK TX mvX false a0 "PackedImage$Device" cDe_clusterWith 4 (some .int) (0, v0, M9)) : ∀ (n : Nat) (y1 : Int) (y2 : Int) (y3 : Int) (M : Mm), fDe_clusterWith_2 n y1 y2 y3 M = some (v0, M9) → Wm X 2 [some (.inr 16), some (.inl y1), some (.inl y2), some (.inl y3)] [] M := by
  intro n
  induction n with
  | zero => intro y1 y2 y3 M hf; exact nomatch (show (none : Option (Int × Mm)) = _ from hf)
  | succ n ih =>
    intro y1 y2 y3 M hf
    rw [fDe_clusterWith_2] at hf
    refine x_iloadn dDe_clusterWith_2 rfl ?_
    refine x_bipush dDe_clusterWith_3 (by decide) ?_
    refine x_ge hf dDe_clusterWith_5 rfl (fun hf => ?_) (fun hf => ?_)
    · refine x_iloadn dDe_clusterWith_24 rfl ?_
      exact x_iret (rt_n hf) rfl dDe_clusterWith_25
    · refine x_iloadn dDe_clusterWith_8 rfl ?_
      refine x_aloadn dDe_clusterWith_9 rfl ?_
      refine x_iloadn dDe_clusterWith_10 rfl ?_
      refine x_iloadn dDe_clusterWith_11 rfl ?_
      refine x_cvni hf (kDe_clusterEnd X.hst) iDe_clusterEnd lDe_90 tX_16 rfl rfl (by decide) (Nat.le_of_ble_eq_true rfl) dDe_clusterWith_12 (fun v2 M1 hf => ?_)
      refine x_lt hf dDe_clusterWith_15 rfl (fun hf => ?_) (fun hf => ?_)
      · refine x_iloadn dDe_clusterWith_24 rfl ?_
        exact x_iret (rt_n hf) rfl dDe_clusterWith_25
      · refine x_iinc dDe_clusterWith_18 rfl (by decide) ?_
        refine x_goto (tgt := 2) dDe_clusterWith_21 rfl ?_
        exact x_mask [true, true, true, true] (ih _ _ _ _ hf)
set_option maxRecDepth 10000 in
theorem wDe_clusterWith {v0 : Int} {M9 : Mm} (X : Cy p l e (rmn 2 45) s m args below meth c D aK TX mvX false a0 "PackedImage$Device" cDe_clusterWith 4 (some .int) (0, v0, M9)) {x1 : Int} {x2 : Int} {M : Mm} (hf : fDe_clusterWith x1 x2 M = some (v0, M9)) : Wm X 0 [some (.inr 16), some (.inl x1), some (.inl x2), none] [] M := by
  unfold fDe_clusterWith at hf
  refine x_iconst dDe_clusterWith_0 ?_
  refine x_istoren dDe_clusterWith_1 (by decide) ?_
  exact x_mask [true, true, true, true] (wDe_clusterWith_2 X FU _ _ _ _ hf)
theorem kDe_clusterWith {l : Launch} (hl : l.stackTraces = false) {x1 : Int} {x2 : Int} {M : Mm} (v0 : Int) (M9 : Mm) (hf : fDe_clusterWith x1 x2 M = some (v0, M9)) : Ct l yDe_clusterWith (rmn 2 45) TX mvX false (some .int) [.inr 16, .inl x1, .inl x2] M (0, v0, M9) := ct_of hl (by decide) iDe_clusterWith.1 (Nat.le_of_ble_eq_true rfl) (fun X => wDe_clusterWith X hf)
def fCl_takeLiterals_16 (k1 n1 : Nat) : Nat → Int → Int → Int → Mm → Option (Int × Mm)
  | 0, _, _, _, _ => none
  | n+1, y2, y3, y4, M =>
    mlt y4 y3
      (mrd M k1 n1 (y2 + (M 24 4)) fun v1 =>
      mwr M 25 255 (M 24 3) v1 fun M2 =>
      mput M2 24 3 ((M2 24 3) + 1) fun M3 =>
      mput M3 24 4 ((M3 24 4) + 1) fun M4 =>
      (fCl_takeLiterals_16 k1 n1 n) y2 y3 (y4 + 1) M4)
      (some (1, M))
def fCl_takeLiterals (k1 n1 : Nat) (x2 : Int) (x3 : Int) (M : Mm) : Option (Int × Mm) :=
  mlt 16 ((M 24 4) + x3)
    (some (0, M))
    (fCl_takeLiterals_16 k1 n1 FU x2 x3 0 M)
set_option maxRecDepth 10000 in
theorem wCl_takeLiterals_16 {v0 : Int} {M9 : Mm} (X : Cy p l e (rmn 0 0) s m args below meth c D aK TX mvX false a0 "PackedImage$Cluster" cCl_takeLiterals 5 (some .boolean) (0, v0, M9)) {k1 n1 : Nat} (hk1 : TX[k1]? = some (.inr (0, n1))) (hn1 : n1 < 2147483648) : ∀ (n : Nat) (y2 : Int) (y3 : Int) (y4 : Int) (M : Mm), fCl_takeLiterals_16 k1 n1 n y2 y3 y4 M = some (v0, M9) → Wm X 16 [some (.inr 24), some (.inr k1), some (.inl y2), some (.inl y3), some (.inl y4)] [] M := by
  intro n
  induction n with
  | zero => intro y2 y3 y4 M hf; exact nomatch (show (none : Option (Int × Mm)) = _ from hf)
  | succ n ih =>
    intro y2 y3 y4 M hf
    rw [fCl_takeLiterals_16] at hf
    refine x_iload dCl_takeLiterals_16 rfl ?_
    refine x_iloadn dCl_takeLiterals_18 rfl ?_
    refine x_ge hf dCl_takeLiterals_19 rfl (fun hf => ?_) (fun hf => ?_)
    · refine x_iconst dCl_takeLiterals_65 ?_
      exact x_zret (rt_n hf) (by decide) rfl dCl_takeLiterals_66
    · refine x_aloadn dCl_takeLiterals_22 rfl ?_
      refine x_getR gCl_9 tX_24 rfl dCl_takeLiterals_23 ?_
      refine x_aloadn dCl_takeLiterals_26 rfl ?_
      refine x_getI gCl_19 tX_24 rfl dCl_takeLiterals_27 ?_
      refine x_aloadn dCl_takeLiterals_30 rfl ?_
      refine x_iloadn dCl_takeLiterals_31 rfl ?_
      refine x_aloadn dCl_takeLiterals_32 rfl ?_
      refine x_getI gCl_22 tX_24 rfl dCl_takeLiterals_33 ?_
      refine x_iadd dCl_takeLiterals_36 ?_
      refine x_iald hf hk1 hn1 dCl_takeLiterals_37 (fun v1 hf => ?_)
      refine x_iast hf tX_25 (by decide) dCl_takeLiterals_38 (fun M2 hf => ?_)
      refine x_aloadn dCl_takeLiterals_39 rfl ?_
      refine x_dup dCl_takeLiterals_40 ?_
      refine x_getI gCl_19 tX_24 rfl dCl_takeLiterals_41 ?_
      refine x_iconst dCl_takeLiterals_44 ?_
      refine x_iadd dCl_takeLiterals_45 ?_
      refine x_put hf gCl_19 pCl_3 tX_24 rfl dCl_takeLiterals_46 (fun M3 hf => ?_)
      refine x_aloadn dCl_takeLiterals_49 rfl ?_
      refine x_dup dCl_takeLiterals_50 ?_
      refine x_getI gCl_22 tX_24 rfl dCl_takeLiterals_51 ?_
      refine x_iconst dCl_takeLiterals_54 ?_
      refine x_iadd dCl_takeLiterals_55 ?_
      refine x_put hf gCl_22 pCl_4 tX_24 rfl dCl_takeLiterals_56 (fun M4 hf => ?_)
      refine x_iinc dCl_takeLiterals_59 rfl (by decide) ?_
      refine x_goto (tgt := 16) dCl_takeLiterals_62 rfl ?_
      exact x_mask [true, true, true, true, true] (ih _ _ _ _ hf)
set_option maxRecDepth 10000 in
theorem wCl_takeLiterals {v0 : Int} {M9 : Mm} (X : Cy p l e (rmn 0 0) s m args below meth c D aK TX mvX false a0 "PackedImage$Cluster" cCl_takeLiterals 5 (some .boolean) (0, v0, M9)) {k1 n1 : Nat} (hk1 : TX[k1]? = some (.inr (0, n1))) (hn1 : n1 < 2147483648) {x2 : Int} {x3 : Int} {M : Mm} (hf : fCl_takeLiterals k1 n1 x2 x3 M = some (v0, M9)) : Wm X 0 [some (.inr 24), some (.inr k1), some (.inl x2), some (.inl x3), none] [] M := by
  unfold fCl_takeLiterals at hf
  refine x_aloadn dCl_takeLiterals_0 rfl ?_
  refine x_getI gCl_22 tX_24 rfl dCl_takeLiterals_1 ?_
  refine x_iloadn dCl_takeLiterals_4 rfl ?_
  refine x_iadd dCl_takeLiterals_5 ?_
  refine x_bipush dCl_takeLiterals_6 (by decide) ?_
  refine x_le hf dCl_takeLiterals_8 rfl (fun hf => ?_) (fun hf => ?_)
  · refine x_iconst dCl_takeLiterals_13 ?_
    refine x_istore dCl_takeLiterals_14 (by decide) ?_
    exact x_mask [true, true, true, true, true] (wCl_takeLiterals_16 X hk1 hn1 FU _ _ _ _ hf)
  · refine x_iconst dCl_takeLiterals_11 ?_
    exact x_zret (rt_n hf) (by decide) rfl dCl_takeLiterals_12
theorem kCl_takeLiterals {l : Launch} (hl : l.stackTraces = false) {k1 n1 : Nat} (hk1 : TX[k1]? = some (.inr (0, n1))) (hn1 : n1 < 2147483648) {x2 : Int} {x3 : Int} {M : Mm} (v0 : Int) (M9 : Mm) (hf : fCl_takeLiterals k1 n1 x2 x3 M = some (v0, M9)) : Ct l yCl_takeLiterals (rmn 0 0) TX mvX false (some .boolean) [.inr 24, .inr k1, .inl x2, .inl x3] M (0, v0, M9) := ct_of hl (by decide) iCl_takeLiterals.1 (Nat.le_of_ble_eq_true rfl) (fun X => wCl_takeLiterals X hk1 hn1 hf)
def fCl_takeMatch_50 (k1 n1 : Nat) : Nat → Int → Int → Int → Mm → Option (Int × Mm)
  | 0, _, _, _, _ => none
  | n+1, y3, y4, y5, M =>
    mlt y5 y3
      (mrd M 25 255 ((M 24 3) - y4) fun v3 =>
      mwr M 25 255 (M 24 3) v3 fun M4 =>
      mput M4 24 3 ((M4 24 3) + 1) fun M5 =>
      (fCl_takeMatch_50 k1 n1 n) y3 y4 (y5 + 1) M5)
      (some (1, M))
def fCl_takeMatch (k1 n1 : Nat) (x2 : Int) (x3 : Int) (M : Mm) : Option (Int × Mm) :=
  mlt (M 24 4) 16
    (mrd M k1 n1 (x2 + (M 24 4)) fun v1 =>
    mput M 24 4 ((M 24 4) + 1) fun M2 =>
    meq v1 0
      (some (0, M2))
      (mlt (M2 24 3) v1
        (some (0, M2))
        (fCl_takeMatch_50 k1 n1 FU x3 v1 0 M2)))
    (some (0, M))
set_option maxRecDepth 10000 in
theorem wCl_takeMatch_50 {v0 : Int} {M9 : Mm} (X : Cy p l e (rmn 0 0) s m args below meth c D aK TX mvX false a0 "PackedImage$Cluster" cCl_takeMatch 6 (some .boolean) (0, v0, M9)) {k1 n1 : Nat} (hk1 : TX[k1]? = some (.inr (0, n1))) (hn1 : n1 < 2147483648) : ∀ (n : Nat) (y3 : Int) (y4 : Int) (y5 : Int) (M : Mm), fCl_takeMatch_50 k1 n1 n y3 y4 y5 M = some (v0, M9) → Wm X 50 [some (.inr 24), none, none, some (.inl y3), some (.inl y4), some (.inl y5)] [] M := by
  intro n
  induction n with
  | zero => intro y3 y4 y5 M hf; exact nomatch (show (none : Option (Int × Mm)) = _ from hf)
  | succ n ih =>
    intro y3 y4 y5 M hf
    rw [fCl_takeMatch_50] at hf
    refine x_iload dCl_takeMatch_50 rfl ?_
    refine x_iloadn dCl_takeMatch_52 rfl ?_
    refine x_ge hf dCl_takeMatch_53 rfl (fun hf => ?_) (fun hf => ?_)
    · refine x_iconst dCl_takeMatch_93 ?_
      exact x_zret (rt_n hf) (by decide) rfl dCl_takeMatch_94
    · refine x_aloadn dCl_takeMatch_56 rfl ?_
      refine x_getR gCl_9 tX_24 rfl dCl_takeMatch_57 ?_
      refine x_aloadn dCl_takeMatch_60 rfl ?_
      refine x_getI gCl_19 tX_24 rfl dCl_takeMatch_61 ?_
      refine x_aloadn dCl_takeMatch_64 rfl ?_
      refine x_getR gCl_9 tX_24 rfl dCl_takeMatch_65 ?_
      refine x_aloadn dCl_takeMatch_68 rfl ?_
      refine x_getI gCl_19 tX_24 rfl dCl_takeMatch_69 ?_
      refine x_iload dCl_takeMatch_72 rfl ?_
      refine x_isub dCl_takeMatch_74 ?_
      refine x_iald hf tX_25 (by decide) dCl_takeMatch_75 (fun v3 hf => ?_)
      refine x_iast hf tX_25 (by decide) dCl_takeMatch_76 (fun M4 hf => ?_)
      refine x_aloadn dCl_takeMatch_77 rfl ?_
      refine x_dup dCl_takeMatch_78 ?_
      refine x_getI gCl_19 tX_24 rfl dCl_takeMatch_79 ?_
      refine x_iconst dCl_takeMatch_82 ?_
      refine x_iadd dCl_takeMatch_83 ?_
      refine x_put hf gCl_19 pCl_3 tX_24 rfl dCl_takeMatch_84 (fun M5 hf => ?_)
      refine x_iinc dCl_takeMatch_87 rfl (by decide) ?_
      refine x_goto (tgt := 50) dCl_takeMatch_90 rfl ?_
      exact x_mask [true, false, false, true, true, true] (ih _ _ _ _ hf)
set_option maxRecDepth 10000 in
theorem wCl_takeMatch {v0 : Int} {M9 : Mm} (X : Cy p l e (rmn 0 0) s m args below meth c D aK TX mvX false a0 "PackedImage$Cluster" cCl_takeMatch 6 (some .boolean) (0, v0, M9)) {k1 n1 : Nat} (hk1 : TX[k1]? = some (.inr (0, n1))) (hn1 : n1 < 2147483648) {x2 : Int} {x3 : Int} {M : Mm} (hf : fCl_takeMatch k1 n1 x2 x3 M = some (v0, M9)) : Wm X 0 [some (.inr 24), some (.inr k1), some (.inl x2), some (.inl x3), none, none] [] M := by
  unfold fCl_takeMatch at hf
  refine x_aloadn dCl_takeMatch_0 rfl ?_
  refine x_getI gCl_22 tX_24 rfl dCl_takeMatch_1 ?_
  refine x_bipush dCl_takeMatch_4 (by decide) ?_
  refine x_lt hf dCl_takeMatch_6 rfl (fun hf => ?_) (fun hf => ?_)
  · refine x_aloadn dCl_takeMatch_11 rfl ?_
    refine x_iloadn dCl_takeMatch_12 rfl ?_
    refine x_aloadn dCl_takeMatch_13 rfl ?_
    refine x_getI gCl_22 tX_24 rfl dCl_takeMatch_14 ?_
    refine x_iadd dCl_takeMatch_17 ?_
    refine x_iald hf hk1 hn1 dCl_takeMatch_18 (fun v1 hf => ?_)
    refine x_istore dCl_takeMatch_19 (by decide) ?_
    refine x_aloadn dCl_takeMatch_21 rfl ?_
    refine x_dup dCl_takeMatch_22 ?_
    refine x_getI gCl_22 tX_24 rfl dCl_takeMatch_23 ?_
    refine x_iconst dCl_takeMatch_26 ?_
    refine x_iadd dCl_takeMatch_27 ?_
    refine x_put hf gCl_22 pCl_4 tX_24 rfl dCl_takeMatch_28 (fun M2 hf => ?_)
    refine x_iload dCl_takeMatch_31 rfl ?_
    refine x_eq0 hf dCl_takeMatch_33 rfl (fun hf => ?_) (fun hf => ?_)
    · refine x_iconst dCl_takeMatch_45 ?_
      exact x_zret (rt_n hf) (by decide) rfl dCl_takeMatch_46
    · refine x_iload dCl_takeMatch_36 rfl ?_
      refine x_aloadn dCl_takeMatch_38 rfl ?_
      refine x_getI gCl_19 tX_24 rfl dCl_takeMatch_39 ?_
      refine x_le hf dCl_takeMatch_42 rfl (fun hf => ?_) (fun hf => ?_)
      · refine x_iconst dCl_takeMatch_47 ?_
        refine x_istore dCl_takeMatch_48 (by decide) ?_
        exact x_mask [true, false, false, true, true, true] (wCl_takeMatch_50 X hk1 hn1 FU _ _ _ _ hf)
      · refine x_iconst dCl_takeMatch_45 ?_
        exact x_zret (rt_n hf) (by decide) rfl dCl_takeMatch_46
  · refine x_iconst dCl_takeMatch_9 ?_
    exact x_zret (rt_n hf) (by decide) rfl dCl_takeMatch_10
theorem kCl_takeMatch {l : Launch} (hl : l.stackTraces = false) {k1 n1 : Nat} (hk1 : TX[k1]? = some (.inr (0, n1))) (hn1 : n1 < 2147483648) {x2 : Int} {x3 : Int} {M : Mm} (v0 : Int) (M9 : Mm) (hf : fCl_takeMatch k1 n1 x2 x3 M = some (v0, M9)) : Ct l yCl_takeMatch (rmn 0 0) TX mvX false (some .boolean) [.inr 24, .inr k1, .inl x2, .inl x3] M (0, v0, M9) := ct_of hl (by decide) iCl_takeMatch.1 (Nat.le_of_ble_eq_true rfl) (fun X => wCl_takeMatch X hk1 hn1 hf)
def fCl_takeToken (k1 n1 : Nat) (x2 : Int) (x3 : Int) (M : Mm) : Option (Int × Mm) :=
  mlt (M 24 4) 16
    (mrd M k1 n1 (x2 + (M 24 4)) fun v1 =>
    meq v1 0
      (some (0, M))
      (mrd M k1 n1 (x2 + (M 24 4)) fun v2 =>
      mput M 24 4 ((M 24 4) + 1) fun M3 =>
      mshr v2 4 fun v4 =>
      mmin v4 (x3 - (M3 24 3)) fun v5 =>
      mcn (fCl_takeLiterals k1 n1 x2 v5 M3) fun v7 M6 =>
      meq v7 0
        (some (0, M6))
        (meq (v2 % 16) 0
          (some (1, M6))
          (mlt (M6 24 3) x3
            (mmin ((v2 % 16) + 2) (x3 - (M6 24 3)) fun v8 =>
            mcn (fCl_takeMatch k1 n1 x2 v8 M6) fun v10 M9 =>
            meq v10 0
              (some (0, M9))
              (some (1, M9)))
            (some (1, M6))))))
    (some (0, M))
set_option maxRecDepth 10000 in
theorem wCl_takeToken {v0 : Int} {M9 : Mm} (X : Cy p l e (rmn 1 25) s m args below meth c D aK TX mvX false a0 "PackedImage$Cluster" cCl_takeToken 6 (some .boolean) (0, v0, M9)) {k1 n1 : Nat} (hk1 : TX[k1]? = some (.inr (0, n1))) (hn1 : n1 < 2147483648) {x2 : Int} {x3 : Int} {M : Mm} (hf : fCl_takeToken k1 n1 x2 x3 M = some (v0, M9)) : Wm X 0 [some (.inr 24), some (.inr k1), some (.inl x2), some (.inl x3), none, none] [] M := by
  unfold fCl_takeToken at hf
  refine x_aloadn dCl_takeToken_0 rfl ?_
  refine x_getI gCl_22 tX_24 rfl dCl_takeToken_1 ?_
  refine x_bipush dCl_takeToken_4 (by decide) ?_
  refine x_ge hf dCl_takeToken_6 rfl (fun hf => ?_) (fun hf => ?_)
  · refine x_iconst dCl_takeToken_20 ?_
    exact x_zret (rt_n hf) (by decide) rfl dCl_takeToken_21
  · refine x_aloadn dCl_takeToken_9 rfl ?_
    refine x_iloadn dCl_takeToken_10 rfl ?_
    refine x_aloadn dCl_takeToken_11 rfl ?_
    refine x_getI gCl_22 tX_24 rfl dCl_takeToken_12 ?_
    refine x_iadd dCl_takeToken_15 ?_
    refine x_iald hf hk1 hn1 dCl_takeToken_16 (fun v1 hf => ?_)
    refine x_ne0 hf dCl_takeToken_17 rfl (fun hf => ?_) (fun hf => ?_)
    · refine x_aloadn dCl_takeToken_22 rfl ?_
      refine x_iloadn dCl_takeToken_23 rfl ?_
      refine x_aloadn dCl_takeToken_24 rfl ?_
      refine x_getI gCl_22 tX_24 rfl dCl_takeToken_25 ?_
      refine x_iadd dCl_takeToken_28 ?_
      refine x_iald hf hk1 hn1 dCl_takeToken_29 (fun v2 hf => ?_)
      refine x_istore dCl_takeToken_30 (by decide) ?_
      refine x_aloadn dCl_takeToken_32 rfl ?_
      refine x_dup dCl_takeToken_33 ?_
      refine x_getI gCl_22 tX_24 rfl dCl_takeToken_34 ?_
      refine x_iconst dCl_takeToken_37 ?_
      refine x_iadd dCl_takeToken_38 ?_
      refine x_put hf gCl_22 pCl_4 tX_24 rfl dCl_takeToken_39 (fun M3 hf => ?_)
      refine x_aloadn dCl_takeToken_42 rfl ?_
      refine x_aloadn dCl_takeToken_43 rfl ?_
      refine x_iloadn dCl_takeToken_44 rfl ?_
      refine x_iload dCl_takeToken_45 rfl ?_
      refine x_iconst dCl_takeToken_47 ?_
      refine x_ishr hf dCl_takeToken_48 (fun v4 hf => ?_)
      refine x_iloadn dCl_takeToken_49 rfl ?_
      refine x_aloadn dCl_takeToken_50 rfl ?_
      refine x_getI gCl_19 tX_24 rfl dCl_takeToken_51 ?_
      refine x_isub dCl_takeToken_54 ?_
      refine x_min hf lCl_29 mw_min ⟨Nat.le_of_ble_eq_true rfl, Nat.le_of_ble_eq_true rfl⟩ dCl_takeToken_55 (fun v5 hf => ?_)
      refine x_cvni hf (kCl_takeLiterals X.hst hk1 hn1) iCl_takeLiterals lCl_35 tX_24 rfl rfl (by decide) (Nat.le_of_ble_eq_true rfl) dCl_takeToken_58 (fun v7 M6 hf => ?_)
      refine x_ne0 hf dCl_takeToken_61 rfl (fun hf => ?_) (fun hf => ?_)
      · refine x_iload dCl_takeToken_66 rfl ?_
        refine x_bipush dCl_takeToken_68 (by decide) ?_
        refine x_iandm (an15 _) dCl_takeToken_70 ?_
        refine x_istore dCl_takeToken_71 (by decide) ?_
        refine x_iload dCl_takeToken_73 rfl ?_
        refine x_eq0 hf dCl_takeToken_75 rfl (fun hf => ?_) (fun hf => ?_)
        · refine x_iconst dCl_takeToken_108 ?_
          refine x_goto (tgt := 113) dCl_takeToken_109 rfl ?_
          exact x_zret (rt_n hf) (by decide) rfl dCl_takeToken_113
        · refine x_aloadn dCl_takeToken_78 rfl ?_
          refine x_getI gCl_19 tX_24 rfl dCl_takeToken_79 ?_
          refine x_iloadn dCl_takeToken_82 rfl ?_
          refine x_ge hf dCl_takeToken_83 rfl (fun hf => ?_) (fun hf => ?_)
          · refine x_iconst dCl_takeToken_108 ?_
            refine x_goto (tgt := 113) dCl_takeToken_109 rfl ?_
            exact x_zret (rt_n hf) (by decide) rfl dCl_takeToken_113
          · refine x_aloadn dCl_takeToken_86 rfl ?_
            refine x_aloadn dCl_takeToken_87 rfl ?_
            refine x_iloadn dCl_takeToken_88 rfl ?_
            refine x_iload dCl_takeToken_89 rfl ?_
            refine x_iconst dCl_takeToken_91 ?_
            refine x_iadd dCl_takeToken_92 ?_
            refine x_iloadn dCl_takeToken_93 rfl ?_
            refine x_aloadn dCl_takeToken_94 rfl ?_
            refine x_getI gCl_19 tX_24 rfl dCl_takeToken_95 ?_
            refine x_isub dCl_takeToken_98 ?_
            refine x_min hf lCl_29 mw_min ⟨Nat.le_of_ble_eq_true rfl, Nat.le_of_ble_eq_true rfl⟩ dCl_takeToken_99 (fun v8 hf => ?_)
            refine x_cvni hf (kCl_takeMatch X.hst hk1 hn1) iCl_takeMatch lCl_38 tX_24 rfl rfl (by decide) (Nat.le_of_ble_eq_true rfl) dCl_takeToken_102 (fun v10 M9 hf => ?_)
            refine x_eq0 hf dCl_takeToken_105 rfl (fun hf => ?_) (fun hf => ?_)
            · refine x_iconst dCl_takeToken_112 ?_
              exact x_zret (rt_n hf) (by decide) rfl dCl_takeToken_113
            · refine x_iconst dCl_takeToken_108 ?_
              refine x_goto (tgt := 113) dCl_takeToken_109 rfl ?_
              exact x_zret (rt_n hf) (by decide) rfl dCl_takeToken_113
      · refine x_iconst dCl_takeToken_64 ?_
        exact x_zret (rt_n hf) (by decide) rfl dCl_takeToken_65
    · refine x_iconst dCl_takeToken_20 ?_
      exact x_zret (rt_n hf) (by decide) rfl dCl_takeToken_21
theorem kCl_takeToken {l : Launch} (hl : l.stackTraces = false) {k1 n1 : Nat} (hk1 : TX[k1]? = some (.inr (0, n1))) (hn1 : n1 < 2147483648) {x2 : Int} {x3 : Int} {M : Mm} (v0 : Int) (M9 : Mm) (hf : fCl_takeToken k1 n1 x2 x3 M = some (v0, M9)) : Ct l yCl_takeToken (rmn 1 25) TX mvX false (some .boolean) [.inr 24, .inr k1, .inl x2, .inl x3] M (0, v0, M9) := ct_of hl (by decide) iCl_takeToken.1 (Nat.le_of_ble_eq_true rfl) (fun X => wCl_takeToken X hk1 hn1 hf)
def fCl_fill_38 (k1 n1 : Nat) : Nat → Int → Int → Int → Int → Mm → Option (Int × Mm)
  | 0, _, _, _, _, _ => none
  | n+1, y2, y3, y4, y5, M =>
    mlt 16 y5
      (mz y4 (some (y4, M)))
      (meq y4 0
        (mz y4 (some (y4, M)))
        (mlt (M 24 3) y3
          (mcn (fCl_takeToken k1 n1 y2 y3 M) fun v4 M3 =>
          (fCl_fill_38 k1 n1 n) y2 y3 v4 (y5 + 1) M3)
          (mz y4 (some (y4, M)))))
def fCl_fill (k1 n1 : Nat) (x2 : Int) (x3 : Int) (M : Mm) : Option (Int × Mm) :=
  mput M 24 3 0 fun M1 =>
  mput M1 24 4 0 fun M2 =>
  mlt x2 0
    (some (0, M2))
    (mlt (n1 : Int) (x2 + 16)
      (some (0, M2))
      (mlt 255 x3
        (some (0, M2))
        (fCl_fill_38 k1 n1 FU x2 x3 1 0 M2)))
set_option maxRecDepth 10000 in
theorem wCl_fill_38 {v0 : Int} {M9 : Mm} (X : Cy p l e (rmn 2 50) s m args below meth c D aK TX mvX false a0 "PackedImage$Cluster" cCl_fill 6 (some .boolean) (0, v0, M9)) {k1 n1 : Nat} (hk1 : TX[k1]? = some (.inr (0, n1))) (hn1 : n1 < 2147483648) : ∀ (n : Nat) (y2 : Int) (y3 : Int) (y4 : Int) (y5 : Int) (M : Mm), fCl_fill_38 k1 n1 n y2 y3 y4 y5 M = some (v0, M9) → Wm X 38 [some (.inr 24), some (.inr k1), some (.inl y2), some (.inl y3), some (.inl y4), some (.inl y5)] [] M := by
  intro n
  induction n with
  | zero => intro y2 y3 y4 y5 M hf; exact nomatch (show (none : Option (Int × Mm)) = _ from hf)
  | succ n ih =>
    intro y2 y3 y4 y5 M hf
    rw [fCl_fill_38] at hf
    refine x_iload dCl_fill_38 rfl ?_
    refine x_bipush dCl_fill_40 (by decide) ?_
    refine x_gt hf dCl_fill_42 rfl (fun hf => ?_) (fun hf => ?_)
    · refine x_iload dCl_fill_73 rfl ?_
      obtain ⟨hz, hf⟩ := mif_of hf
      exact x_zret (rt_n hf) hz rfl dCl_fill_75
    · refine x_iload dCl_fill_45 rfl ?_
      refine x_eq0 hf dCl_fill_47 rfl (fun hf => ?_) (fun hf => ?_)
      · refine x_iload dCl_fill_73 rfl ?_
        obtain ⟨hz, hf⟩ := mif_of hf
        exact x_zret (rt_n hf) hz rfl dCl_fill_75
      · refine x_aloadn dCl_fill_50 rfl ?_
        refine x_getI gCl_19 tX_24 rfl dCl_fill_51 ?_
        refine x_iloadn dCl_fill_54 rfl ?_
        refine x_ge hf dCl_fill_55 rfl (fun hf => ?_) (fun hf => ?_)
        · refine x_iload dCl_fill_73 rfl ?_
          obtain ⟨hz, hf⟩ := mif_of hf
          exact x_zret (rt_n hf) hz rfl dCl_fill_75
        · refine x_aloadn dCl_fill_58 rfl ?_
          refine x_aloadn dCl_fill_59 rfl ?_
          refine x_iloadn dCl_fill_60 rfl ?_
          refine x_iloadn dCl_fill_61 rfl ?_
          refine x_cvni hf (kCl_takeToken X.hst hk1 hn1) iCl_takeToken lCl_25 tX_24 rfl rfl (by decide) (Nat.le_of_ble_eq_true rfl) dCl_fill_62 (fun v4 M3 hf => ?_)
          refine x_istore dCl_fill_65 (by decide) ?_
          refine x_iinc dCl_fill_67 rfl (by decide) ?_
          refine x_goto (tgt := 38) dCl_fill_70 rfl ?_
          exact x_mask [true, true, true, true, true, true] (ih _ _ _ _ _ hf)
set_option maxRecDepth 10000 in
theorem wCl_fill {v0 : Int} {M9 : Mm} (X : Cy p l e (rmn 2 50) s m args below meth c D aK TX mvX false a0 "PackedImage$Cluster" cCl_fill 6 (some .boolean) (0, v0, M9)) {k1 n1 : Nat} (hk1 : TX[k1]? = some (.inr (0, n1))) (hn1 : n1 < 2147483648) {x2 : Int} {x3 : Int} {M : Mm} (hf : fCl_fill k1 n1 x2 x3 M = some (v0, M9)) : Wm X 0 [some (.inr 24), some (.inr k1), some (.inl x2), some (.inl x3), none, none] [] M := by
  unfold fCl_fill at hf
  refine x_aloadn dCl_fill_0 rfl ?_
  refine x_iconst dCl_fill_1 ?_
  refine x_put hf gCl_19 pCl_3 tX_24 rfl dCl_fill_2 (fun M1 hf => ?_)
  refine x_aloadn dCl_fill_5 rfl ?_
  refine x_iconst dCl_fill_6 ?_
  refine x_put hf gCl_22 pCl_4 tX_24 rfl dCl_fill_7 (fun M2 hf => ?_)
  refine x_iloadn dCl_fill_10 rfl ?_
  refine x_lt0 hf dCl_fill_11 rfl (fun hf => ?_) (fun hf => ?_)
  · refine x_iconst dCl_fill_30 ?_
    exact x_zret (rt_n hf) (by decide) rfl dCl_fill_31
  · refine x_iloadn dCl_fill_14 rfl ?_
    refine x_bipush dCl_fill_15 (by decide) ?_
    refine x_iadd dCl_fill_17 ?_
    refine x_aloadn dCl_fill_18 rfl ?_
    refine x_alen hk1 dCl_fill_19 ?_
    refine x_gt hf dCl_fill_20 rfl (fun hf => ?_) (fun hf => ?_)
    · refine x_iconst dCl_fill_30 ?_
      exact x_zret (rt_n hf) (by decide) rfl dCl_fill_31
    · refine x_iloadn dCl_fill_23 rfl ?_
      refine x_sipush dCl_fill_24 (by decide) ?_
      refine x_le hf dCl_fill_27 rfl (fun hf => ?_) (fun hf => ?_)
      · refine x_iconst dCl_fill_32 ?_
        refine x_istore dCl_fill_33 (by decide) ?_
        refine x_iconst dCl_fill_35 ?_
        refine x_istore dCl_fill_36 (by decide) ?_
        exact x_mask [true, true, true, true, true, true] (wCl_fill_38 X hk1 hn1 FU _ _ _ _ _ hf)
      · refine x_iconst dCl_fill_30 ?_
        exact x_zret (rt_n hf) (by decide) rfl dCl_fill_31
theorem kCl_fill {l : Launch} (hl : l.stackTraces = false) {k1 n1 : Nat} (hk1 : TX[k1]? = some (.inr (0, n1))) (hn1 : n1 < 2147483648) {x2 : Int} {x3 : Int} {M : Mm} (v0 : Int) (M9 : Mm) (hf : fCl_fill k1 n1 x2 x3 M = some (v0, M9)) : Ct l yCl_fill (rmn 2 50) TX mvX false (some .boolean) [.inr 24, .inr k1, .inl x2, .inl x3] M (0, v0, M9) := ct_of hl (by decide) iCl_fill.1 (Nat.le_of_ble_eq_true rfl) (fun X => wCl_fill X hk1 hn1 hf)
def fDe_unpack (x1 : Int) (x2 : Int) (M : Mm) : Option (Int × Mm) :=
  mcn (fDe_clusterEnd x1 x2 M) fun v2 M1 =>
  mcn (fDe_clusterStart x1 x2 M1) fun v4 M3 =>
  mcn (fDe_firstBlockOf x1 M3) fun v6 M5 =>
  mcn (fCl_fill 17 1024 ((v6 + x2) * 16) (v2 - v4) M5) fun v8 M7 =>
  mz v8 (some (v8, M7))
set_option maxRecDepth 10000 in
theorem wDe_unpack {v0 : Int} {M9 : Mm} (X : Cy p l e (rmn 3 75) s m args below meth c D aK TX mvX false a0 "PackedImage$Device" cDe_unpack 5 (some .boolean) (0, v0, M9)) {x1 : Int} {x2 : Int} {M : Mm} (hf : fDe_unpack x1 x2 M = some (v0, M9)) : Wm X 0 [some (.inr 16), some (.inl x1), some (.inl x2), some (.inr 24), none] [] M := by
  unfold fDe_unpack at hf
  refine x_aloadn dDe_unpack_0 rfl ?_
  refine x_iloadn dDe_unpack_1 rfl ?_
  refine x_iloadn dDe_unpack_2 rfl ?_
  refine x_cvni hf (kDe_clusterEnd X.hst) iDe_clusterEnd lDe_90 tX_16 rfl rfl (by decide) (Nat.le_of_ble_eq_true rfl) dDe_unpack_3 (fun v2 M1 hf => ?_)
  refine x_aloadn dDe_unpack_6 rfl ?_
  refine x_iloadn dDe_unpack_7 rfl ?_
  refine x_iloadn dDe_unpack_8 rfl ?_
  refine x_cvni hf (kDe_clusterStart X.hst) iDe_clusterStart lDe_93 tX_16 rfl rfl (by decide) (Nat.le_of_ble_eq_true rfl) dDe_unpack_9 (fun v4 M3 hf => ?_)
  refine x_isub dDe_unpack_12 ?_
  refine x_istore dDe_unpack_13 (by decide) ?_
  refine x_aloadn dDe_unpack_15 rfl ?_
  refine x_aloadn dDe_unpack_16 rfl ?_
  refine x_getR gDe_9 tX_16 rfl dDe_unpack_17 ?_
  refine x_aloadn dDe_unpack_20 rfl ?_
  refine x_iloadn dDe_unpack_21 rfl ?_
  refine x_cvni hf (kDe_firstBlockOf X.hst) iDe_firstBlockOf lDe_87 tX_16 rfl rfl (by decide) (Nat.le_of_ble_eq_true rfl) dDe_unpack_22 (fun v6 M5 hf => ?_)
  refine x_iloadn dDe_unpack_25 rfl ?_
  refine x_iadd dDe_unpack_26 ?_
  refine x_bipush dDe_unpack_27 (by decide) ?_
  refine x_imul dDe_unpack_29 ?_
  refine x_iload dDe_unpack_30 rfl ?_
  refine x_cvni hf (kCl_fill X.hst tX_17 (by decide)) iCl_fill lDe_96 tX_24 rfl rfl (by decide) (Nat.le_of_ble_eq_true rfl) dDe_unpack_32 (fun v8 M7 hf => ?_)
  obtain ⟨hz, hf⟩ := mif_of hf
  exact x_zret (rt_n hf) hz rfl dDe_unpack_35
theorem kDe_unpack {l : Launch} (hl : l.stackTraces = false) {x1 : Int} {x2 : Int} {M : Mm} (v0 : Int) (M9 : Mm) (hf : fDe_unpack x1 x2 M = some (v0, M9)) : Ct l yDe_unpack (rmn 3 75) TX mvX false (some .boolean) [.inr 16, .inl x1, .inl x2, .inr 24] M (0, v0, M9) := ct_of hl (by decide) iDe_unpack.1 (Nat.le_of_ble_eq_true rfl) (fun X => wDe_unpack X hf)
def fCl_dataAt (x1 : Int) (M : Mm) : Option (Int × Mm) :=
  mlt x1 0
    (some (0, M))
    (mlt x1 (M 20 3)
      (mrd M 21 255 x1 fun v1 =>
      some (v1, M))
      (some (0, M)))
set_option maxRecDepth 10000 in
theorem wCl_dataAt {v0 : Int} {M9 : Mm} (X : Cy p l e (rmn 0 0) s m args below meth c D aK TX mvX false a0 "PackedImage$Cluster" cCl_dataAt 2 (some .int) (0, v0, M9)) {x1 : Int} {M : Mm} (hf : fCl_dataAt x1 M = some (v0, M9)) : Wm X 0 [some (.inr 20), some (.inl x1)] [] M := by
  unfold fCl_dataAt at hf
  refine x_iloadn dCl_dataAt_0 rfl ?_
  refine x_lt0 hf dCl_dataAt_1 rfl (fun hf => ?_) (fun hf => ?_)
  · refine x_iconst dCl_dataAt_21 ?_
    exact x_iret (rt_n hf) rfl dCl_dataAt_22
  · refine x_iloadn dCl_dataAt_4 rfl ?_
    refine x_aloadn dCl_dataAt_5 rfl ?_
    refine x_getI gCl_19 tX_20 rfl dCl_dataAt_6 ?_
    refine x_ge hf dCl_dataAt_9 rfl (fun hf => ?_) (fun hf => ?_)
    · refine x_iconst dCl_dataAt_21 ?_
      exact x_iret (rt_n hf) rfl dCl_dataAt_22
    · refine x_aloadn dCl_dataAt_12 rfl ?_
      refine x_getR gCl_9 tX_20 rfl dCl_dataAt_13 ?_
      refine x_iloadn dCl_dataAt_16 rfl ?_
      refine x_iald hf tX_21 (by decide) dCl_dataAt_17 (fun v1 hf => ?_)
      refine x_goto (tgt := 22) dCl_dataAt_18 rfl ?_
      exact x_iret (rt_n hf) rfl dCl_dataAt_22
theorem kCl_dataAt {l : Launch} (hl : l.stackTraces = false) {x1 : Int} {M : Mm} (v0 : Int) (M9 : Mm) (hf : fCl_dataAt x1 M = some (v0, M9)) : Ct l yCl_dataAt (rmn 0 0) TX mvX false (some .int) [.inr 20, .inl x1] M (0, v0, M9) := ct_of hl (by decide) iCl_dataAt.1 (Nat.le_of_ble_eq_true rfl) (fun X => wCl_dataAt X hf)
def fX_packedByte_52 (y1 y2 y3 : Int) (M : Mm) : Option (Int × Mm) :=
  mcn (fDe_clusterStart y1 y3 M) fun v6 M5 =>
  mcn (fCl_dataAt (y2 - v6) M5) fun v8 M7 =>
  some (v8, M7)
def fX_packedByte (x1 : Int) (x2 : Int) (M : Mm) : Option (Int × Mm) :=
  mcn (fDe_clusterWith x1 x2 M) fun v2 M1 =>
  mcn (fCa_holds x1 v2 M1) fun v4 M3 =>
  meq v4 0
    (mcn (fDe_unpack x1 v2 M3) fun v10 M9 =>
    meq v10 0
      (some ((-1), M9))
      (mcn (fCa_keepSpare x1 v2 M9) fun _ M11 =>
      fX_packedByte_52 x1 x2 v2 M11))
    (fX_packedByte_52 x1 x2 v2 M3)
set_option maxRecDepth 10000 in
theorem wX_packedByte_52 {v0 : Int} {M9 : Mm} (X : Cy p l e (rmn 4 99) s m args below meth c D aK TX mvX true a0 "PackedImage" cX_packedByte 4 (some .int) (0, v0, M9)) : ∀ (y1 : Int) (y2 : Int) (y3 : Int) (M : Mm), fX_packedByte_52 y1 y2 y3 M = some (v0, M9) → Wm X 52 [some (.inr 0), some (.inl y1), some (.inl y2), some (.inl y3)] [] M := by
  intro y1 y2 y3 M hf
  unfold fX_packedByte_52 at hf
  refine x_aloadn dX_packedByte_52 rfl ?_
  refine x_getR gX_33 tX_0 rfl dX_packedByte_53 ?_
  refine x_getR gX_217 tX_19 rfl dX_packedByte_56 ?_
  refine x_iloadn dX_packedByte_59 rfl ?_
  refine x_aloadn dX_packedByte_60 rfl ?_
  refine x_getR gX_26 tX_0 rfl dX_packedByte_61 ?_
  refine x_iloadn dX_packedByte_64 rfl ?_
  refine x_iloadn dX_packedByte_65 rfl ?_
  refine x_cvni hf (kDe_clusterStart X.hst) iDe_clusterStart lX_220 tX_16 rfl rfl (by decide) (Nat.le_of_ble_eq_true rfl) dX_packedByte_66 (fun v6 M5 hf => ?_)
  refine x_isub dX_packedByte_69 ?_
  refine x_cvni hf (kCl_dataAt X.hst) iCl_dataAt lX_223 tX_20 rfl rfl (by decide) (Nat.le_of_ble_eq_true rfl) dX_packedByte_70 (fun v8 M7 hf => ?_)
  exact x_iret (rt_n hf) rfl dX_packedByte_73
set_option maxRecDepth 10000 in
theorem wX_packedByte {v0 : Int} {M9 : Mm} (X : Cy p l e (rmn 4 99) s m args below meth c D aK TX mvX true a0 "PackedImage" cX_packedByte 4 (some .int) (0, v0, M9)) {x1 : Int} {x2 : Int} {M : Mm} (hf : fX_packedByte x1 x2 M = some (v0, M9)) : Wm X 0 [some (.inr 0), some (.inl x1), some (.inl x2), none] [] M := by
  unfold fX_packedByte at hf
  refine x_aloadn dX_packedByte_0 rfl ?_
  refine x_getR gX_26 tX_0 rfl dX_packedByte_1 ?_
  refine x_iloadn dX_packedByte_4 rfl ?_
  refine x_iloadn dX_packedByte_5 rfl ?_
  refine x_cvni hf (kDe_clusterWith X.hst) iDe_clusterWith lX_200 tX_16 rfl rfl (by decide) (Nat.le_of_ble_eq_true rfl) dX_packedByte_6 (fun v2 M1 hf => ?_)
  refine x_istoren dX_packedByte_9 (by decide) ?_
  refine x_aloadn dX_packedByte_10 rfl ?_
  refine x_getR gX_33 tX_0 rfl dX_packedByte_11 ?_
  refine x_iloadn dX_packedByte_14 rfl ?_
  refine x_iloadn dX_packedByte_15 rfl ?_
  refine x_cvpi hf (kCa_holds X.hst) iCa_holds lX_203 tX_19 rfl rfl (by decide) (Nat.le_of_ble_eq_true rfl) dX_packedByte_16 rfl rfl rfl (fun v4 M3 hf => ?_)
  refine x_ne0 hf dX_packedByte_19 rfl (fun hf => ?_) (fun hf => ?_)
  · exact x_mask [true, true, true, true] (wX_packedByte_52 X _ _ _ _ hf)
  · refine x_aloadn dX_packedByte_22 rfl ?_
    refine x_getR gX_26 tX_0 rfl dX_packedByte_23 ?_
    refine x_iloadn dX_packedByte_26 rfl ?_
    refine x_iloadn dX_packedByte_27 rfl ?_
    refine x_aloadn dX_packedByte_28 rfl ?_
    refine x_getR gX_33 tX_0 rfl dX_packedByte_29 ?_
    refine x_getR gX_206 tX_19 rfl dX_packedByte_32 ?_
    refine x_cvni hf (kDe_unpack X.hst) iDe_unpack lX_210 tX_16 rfl rfl (by decide) (Nat.le_of_ble_eq_true rfl) dX_packedByte_35 (fun v10 M9 hf => ?_)
    refine x_ne0 hf dX_packedByte_38 rfl (fun hf => ?_) (fun hf => ?_)
    · refine x_aloadn dX_packedByte_43 rfl ?_
      refine x_getR gX_33 tX_0 rfl dX_packedByte_44 ?_
      refine x_iloadn dX_packedByte_47 rfl ?_
      refine x_iloadn dX_packedByte_48 rfl ?_
      refine x_cvpv hf (kCa_keepSpare X.hst) iCa_keepSpare lX_214 tX_19 rfl rfl (by decide) (Nat.le_of_ble_eq_true rfl) dX_packedByte_49 rfl rfl rfl (fun _ M11 hf => ?_)
      exact x_mask [true, true, true, true] (wX_packedByte_52 X _ _ _ _ hf)
    · refine x_iconst dX_packedByte_41 ?_
      exact x_iret (rt_n hf) rfl dX_packedByte_42
theorem kX_packedByte {l : Launch} (hl : l.stackTraces = false) {x1 : Int} {x2 : Int} {M : Mm} (v0 : Int) (M9 : Mm) (hf : fX_packedByte x1 x2 M = some (v0, M9)) : Ct l yX_packedByte (rmn 4 99) TX mvX true (some .int) [.inr 0, .inl x1, .inl x2] M (0, v0, M9) := ct_of hl (by decide) iX_packedByte.1 (Nat.le_of_ble_eq_true rfl) (fun X => wX_packedByte X hf)
def fX_read (x1 : Int) (x2 : Int) (M : Mm) : Option (Nat × Int × Mm) :=
  mcx (fX_demandInode x1 M) fun _ M1 =>
  mcx (fX_demandGood x1 M1) fun _ M2 =>
  mlt x2 0
    (some (3, 0, M2))
    (mcn (fDe_sizeOf x1 M2) fun v4 M3 =>
    mlt x2 v4
      (mcn (fDe_layoutOf x1 M3) fun v6 M5 =>
      meq v6 2
        (mcn (fX_packedByte x1 x2 M5) fun v8 M7 =>
        meq v8 (-1)
          (some (2, 0, M7))
          (some (0, v8, M7)))
        (mcn (fDe_dataAt x1 x2 M5) fun v10 M9 =>
        some (0, v10, M9)))
      (some (3, 0, M3)))
set_option maxRecDepth 10000 in
theorem wX_read {r : Nat × Int × Mm} (X : Cy p l e (rmn 8 133) s m args below meth c D aK TX mvX true a0 "PackedImage" cX_read 4 (some .int) r) {x1 : Int} {x2 : Int} {M : Mm} (hf : fX_read x1 x2 M = some r) : Wm X 0 [some (.inr 0), some (.inl x1), some (.inl x2), none] [] M := by
  unfold fX_read at hf
  refine x_aloadn dX_read_0 rfl ?_
  refine x_iloadn dX_read_1 rfl ?_
  refine x_cvxv hf (kX_demandInode X.hst) iX_demandInode lX_135 tX_0 rfl rfl (by decide) (Nat.le_of_ble_eq_true rfl) dX_read_2 (fun _ M1 hf => ?_)
  refine x_aloadn dX_read_5 rfl ?_
  refine x_iloadn dX_read_6 rfl ?_
  refine x_cvxv hf (kX_demandGood X.hst) iX_demandGood lX_156 tX_0 rfl rfl (by decide) (Nat.le_of_ble_eq_true rfl) dX_read_7 (fun _ M2 hf => ?_)
  refine x_iloadn dX_read_10 rfl ?_
  refine x_lt0 hf dX_read_11 rfl (fun hf => ?_) (fun hf => ?_)
  · exact x_throw (rt_x hf) (by decide) eX_159_161 (by decide) (by decide) ⟨Nat.le_of_ble_eq_true rfl, Nat.le_of_ble_eq_true rfl, Nat.le_of_ble_eq_true rfl, Nat.le_of_ble_eq_true rfl⟩ dX_read_26 dX_read_29 dX_read_30 dX_read_33
  · refine x_iloadn dX_read_14 rfl ?_
    refine x_aloadn dX_read_15 rfl ?_
    refine x_getR gX_26 tX_0 rfl dX_read_16 ?_
    refine x_iloadn dX_read_19 rfl ?_
    refine x_cvni hf (kDe_sizeOf X.hst) iDe_sizeOf lX_144 tX_16 rfl rfl (by decide) (Nat.le_of_ble_eq_true rfl) dX_read_20 (fun v4 M3 hf => ?_)
    refine x_lt hf dX_read_23 rfl (fun hf => ?_) (fun hf => ?_)
    · refine x_aloadn dX_read_34 rfl ?_
      refine x_getR gX_26 tX_0 rfl dX_read_35 ?_
      refine x_iloadn dX_read_38 rfl ?_
      refine x_cvni hf (kDe_layoutOf X.hst) iDe_layoutOf lX_141 tX_16 rfl rfl (by decide) (Nat.le_of_ble_eq_true rfl) dX_read_39 (fun v6 M5 hf => ?_)
      refine x_iconst dX_read_42 ?_
      refine x_eq hf dX_read_43 rfl (fun hf => ?_) (fun hf => ?_)
      · refine x_aloadn dX_read_56 rfl ?_
        refine x_iloadn dX_read_57 rfl ?_
        refine x_iloadn dX_read_58 rfl ?_
        refine x_cvpi hf (kX_packedByte X.hst) iX_packedByte lX_165 tX_0 rfl rfl (by decide) (Nat.le_of_ble_eq_true rfl) dX_read_59 rfl rfl rfl (fun v8 M7 hf => ?_)
        refine x_istoren dX_read_62 (by decide) ?_
        refine x_iloadn dX_read_63 rfl ?_
        refine x_iconst dX_read_64 ?_
        refine x_ne hf dX_read_65 rfl (fun hf => ?_) (fun hf => ?_)
        · refine x_iloadn dX_read_76 rfl ?_
          exact x_iret (rt_x hf) rfl dX_read_77
        · exact x_throw (rt_x hf) (by decide) eX_56_58 (by decide) (by decide) ⟨Nat.le_of_ble_eq_true rfl, Nat.le_of_ble_eq_true rfl, Nat.le_of_ble_eq_true rfl, Nat.le_of_ble_eq_true rfl⟩ dX_read_68 dX_read_71 dX_read_72 dX_read_75
      · refine x_aloadn dX_read_46 rfl ?_
        refine x_getR gX_26 tX_0 rfl dX_read_47 ?_
        refine x_iloadn dX_read_50 rfl ?_
        refine x_iloadn dX_read_51 rfl ?_
        refine x_cvni hf (kDe_dataAt X.hst) iDe_dataAt lX_162 tX_16 rfl rfl (by decide) (Nat.le_of_ble_eq_true rfl) dX_read_52 (fun v10 M9 hf => ?_)
        exact x_iret (rt_x hf) rfl dX_read_55
    · exact x_throw (rt_x hf) (by decide) eX_159_161 (by decide) (by decide) ⟨Nat.le_of_ble_eq_true rfl, Nat.le_of_ble_eq_true rfl, Nat.le_of_ble_eq_true rfl, Nat.le_of_ble_eq_true rfl⟩ dX_read_26 dX_read_29 dX_read_30 dX_read_33
theorem kX_read {l : Launch} (hl : l.stackTraces = false) {x1 : Int} {x2 : Int} {M : Mm} (w : Nat × Int × Mm) (hf : fX_read x1 x2 M = some w) : Ct l yX_read (rmn 8 133) TX mvX true (some .int) [.inr 0, .inl x1, .inl x2] M w := ct_of hl (by decide) iX_read.1 (Nat.le_of_ble_eq_true rfl) (fun X => wX_read X hf)
def fDe_lookUp_14 : Nat → Int → Int → Int → Int → Int → Mm → Option (Int × Mm)
  | 0, _, _, _, _, _, _ => none
  | n+1, y1, y2, y3, y4, y5, M =>
    mlt y5 255
      (mlt y3 y4
        (mdiv (y3 + y4) 2 fun v4 =>
        mcn (fDe_dataAt y1 (v4 * 3) M) fun v6 M5 =>
        meq v6 y2
          (mcn (fDe_dataAt y1 ((v4 * 3) + 1) M5) fun v8 M7 =>
          some (v8, M7))
          (mlt y2 v6
            ((fDe_lookUp_14 n) y1 y2 y3 v4 (y5 + 1) M5)
            ((fDe_lookUp_14 n) y1 y2 (v4 + 1) y4 (y5 + 1) M5)))
        (some ((-1), M)))
      (some ((-1), M))
def fDe_lookUp (x1 : Int) (x2 : Int) (M : Mm) : Option (Int × Mm) :=
  mcn (fDe_sizeOf x1 M) fun v2 M1 =>
  mdiv v2 3 fun v3 =>
  fDe_lookUp_14 FU x1 x2 0 v3 0 M1
set_option maxRecDepth 10000 in
theorem wDe_lookUp_14 {v0 : Int} {M9 : Mm} (X : Cy p l e (rmn 4 88) s m args below meth c D aK TX mvX false a0 "PackedImage$Device" cDe_lookUp 8 (some .int) (0, v0, M9)) : ∀ (n : Nat) (y1 : Int) (y2 : Int) (y3 : Int) (y4 : Int) (y5 : Int) (M : Mm), fDe_lookUp_14 n y1 y2 y3 y4 y5 M = some (v0, M9) → Wm X 14 [some (.inr 16), some (.inl y1), some (.inl y2), some (.inl y3), some (.inl y4), some (.inl y5), none, none] [] M := by
  intro n
  induction n with
  | zero => intro y1 y2 y3 y4 y5 M hf; exact nomatch (show (none : Option (Int × Mm)) = _ from hf)
  | succ n ih =>
    intro y1 y2 y3 y4 y5 M hf
    rw [fDe_lookUp_14] at hf
    refine x_iload dDe_lookUp_14 rfl ?_
    refine x_sipush dDe_lookUp_16 (by decide) ?_
    refine x_ge hf dDe_lookUp_19 rfl (fun hf => ?_) (fun hf => ?_)
    · refine x_iconst dDe_lookUp_89 ?_
      exact x_iret (rt_n hf) rfl dDe_lookUp_90
    · refine x_iloadn dDe_lookUp_22 rfl ?_
      refine x_iload dDe_lookUp_23 rfl ?_
      refine x_ge hf dDe_lookUp_25 rfl (fun hf => ?_) (fun hf => ?_)
      · refine x_iconst dDe_lookUp_89 ?_
        exact x_iret (rt_n hf) rfl dDe_lookUp_90
      · refine x_iloadn dDe_lookUp_28 rfl ?_
        refine x_iload dDe_lookUp_29 rfl ?_
        refine x_iadd dDe_lookUp_31 ?_
        refine x_iconst dDe_lookUp_32 ?_
        refine x_idiv hf dDe_lookUp_33 (fun v4 hf => ?_)
        refine x_istore dDe_lookUp_34 (by decide) ?_
        refine x_aloadn dDe_lookUp_36 rfl ?_
        refine x_iloadn dDe_lookUp_37 rfl ?_
        refine x_iload dDe_lookUp_38 rfl ?_
        refine x_iconst dDe_lookUp_40 ?_
        refine x_imul dDe_lookUp_41 ?_
        refine x_cvni hf (kDe_dataAt X.hst) iDe_dataAt lDe_105 tX_16 rfl rfl (by decide) (Nat.le_of_ble_eq_true rfl) dDe_lookUp_42 (fun v6 M5 hf => ?_)
        refine x_istore dDe_lookUp_45 (by decide) ?_
        refine x_iload dDe_lookUp_47 rfl ?_
        refine x_iloadn dDe_lookUp_49 rfl ?_
        refine x_ne hf dDe_lookUp_50 rfl (fun hf => ?_) (fun hf => ?_)
        · refine x_iloadn dDe_lookUp_65 rfl ?_
          refine x_iload dDe_lookUp_66 rfl ?_
          refine x_ge hf dDe_lookUp_68 rfl (fun hf => ?_) (fun hf => ?_)
          · refine x_iload dDe_lookUp_78 rfl ?_
            refine x_iconst dDe_lookUp_80 ?_
            refine x_iadd dDe_lookUp_81 ?_
            refine x_istoren dDe_lookUp_82 (by decide) ?_
            refine x_iinc dDe_lookUp_83 rfl (by decide) ?_
            refine x_goto (tgt := 14) dDe_lookUp_86 rfl ?_
            exact x_mask [true, true, true, true, true, true, false, false] (ih _ _ _ _ _ _ hf)
          · refine x_iload dDe_lookUp_71 rfl ?_
            refine x_istore dDe_lookUp_73 (by decide) ?_
            refine x_goto (tgt := 83) dDe_lookUp_75 rfl ?_
            refine x_iinc dDe_lookUp_83 rfl (by decide) ?_
            refine x_goto (tgt := 14) dDe_lookUp_86 rfl ?_
            exact x_mask [true, true, true, true, true, true, false, false] (ih _ _ _ _ _ _ hf)
        · refine x_aloadn dDe_lookUp_53 rfl ?_
          refine x_iloadn dDe_lookUp_54 rfl ?_
          refine x_iload dDe_lookUp_55 rfl ?_
          refine x_iconst dDe_lookUp_57 ?_
          refine x_imul dDe_lookUp_58 ?_
          refine x_iconst dDe_lookUp_59 ?_
          refine x_iadd dDe_lookUp_60 ?_
          refine x_cvni hf (kDe_dataAt X.hst) iDe_dataAt lDe_105 tX_16 rfl rfl (by decide) (Nat.le_of_ble_eq_true rfl) dDe_lookUp_61 (fun v8 M7 hf => ?_)
          exact x_iret (rt_n hf) rfl dDe_lookUp_64
set_option maxRecDepth 10000 in
theorem wDe_lookUp {v0 : Int} {M9 : Mm} (X : Cy p l e (rmn 4 88) s m args below meth c D aK TX mvX false a0 "PackedImage$Device" cDe_lookUp 8 (some .int) (0, v0, M9)) {x1 : Int} {x2 : Int} {M : Mm} (hf : fDe_lookUp x1 x2 M = some (v0, M9)) : Wm X 0 [some (.inr 16), some (.inl x1), some (.inl x2), none, none, none, none, none] [] M := by
  unfold fDe_lookUp at hf
  refine x_iconst dDe_lookUp_0 ?_
  refine x_istoren dDe_lookUp_1 (by decide) ?_
  refine x_aloadn dDe_lookUp_2 rfl ?_
  refine x_iloadn dDe_lookUp_3 rfl ?_
  refine x_cvni hf (kDe_sizeOf X.hst) iDe_sizeOf lDe_69 tX_16 rfl rfl (by decide) (Nat.le_of_ble_eq_true rfl) dDe_lookUp_4 (fun v2 M1 hf => ?_)
  refine x_iconst dDe_lookUp_7 ?_
  refine x_idiv hf dDe_lookUp_8 (fun v3 hf => ?_)
  refine x_istore dDe_lookUp_9 (by decide) ?_
  refine x_iconst dDe_lookUp_11 ?_
  refine x_istore dDe_lookUp_12 (by decide) ?_
  exact x_mask [true, true, true, true, true, true, false, false] (wDe_lookUp_14 X FU _ _ _ _ _ _ hf)
theorem kDe_lookUp {l : Launch} (hl : l.stackTraces = false) {x1 : Int} {x2 : Int} {M : Mm} (v0 : Int) (M9 : Mm) (hf : fDe_lookUp x1 x2 M = some (v0, M9)) : Ct l yDe_lookUp (rmn 4 88) TX mvX false (some .int) [.inr 16, .inl x1, .inl x2] M (0, v0, M9) := ct_of hl (by decide) iDe_lookUp.1 (Nat.le_of_ble_eq_true rfl) (fun X => wDe_lookUp X hf)
def fX_find (x1 : Int) (x2 : Int) (M : Mm) : Option (Nat × Int × Mm) :=
  mcx (fX_demandInode x1 M) fun _ M1 =>
  mcn (fDe_kindOf x1 M1) fun v3 M2 =>
  meq v3 0
    (mcx (fX_demandGood x1 M2) fun _ M4 =>
    mcn (fDe_lookUp x1 x2 M4) fun v6 M5 =>
    some (0, v6, M5))
    (some (1, 0, M2))
set_option maxRecDepth 10000 in
theorem wX_find {r : Nat × Int × Mm} (X : Cy p l e (rmn 8 133) s m args below meth c D aK TX mvX false a0 "PackedImage" cX_find 3 (some .int) r) {x1 : Int} {x2 : Int} {M : Mm} (hf : fX_find x1 x2 M = some r) : Wm X 0 [some (.inr 0), some (.inl x1), some (.inl x2)] [] M := by
  unfold fX_find at hf
  refine x_aloadn dX_find_0 rfl ?_
  refine x_iloadn dX_find_1 rfl ?_
  refine x_cvxv hf (kX_demandInode X.hst) iX_demandInode lX_135 tX_0 rfl rfl (by decide) (Nat.le_of_ble_eq_true rfl) dX_find_2 (fun _ M1 hf => ?_)
  refine x_aloadn dX_find_5 rfl ?_
  refine x_getR gX_26 tX_0 rfl dX_find_6 ?_
  refine x_iloadn dX_find_9 rfl ?_
  refine x_cvni hf (kDe_kindOf X.hst) iDe_kindOf lX_138 tX_16 rfl rfl (by decide) (Nat.le_of_ble_eq_true rfl) dX_find_10 (fun v3 M2 hf => ?_)
  refine x_eq0 hf dX_find_13 rfl (fun hf => ?_) (fun hf => ?_)
  · refine x_aloadn dX_find_24 rfl ?_
    refine x_iloadn dX_find_25 rfl ?_
    refine x_cvxv hf (kX_demandGood X.hst) iX_demandGood lX_156 tX_0 rfl rfl (by decide) (Nat.le_of_ble_eq_true rfl) dX_find_26 (fun _ M4 hf => ?_)
    refine x_aloadn dX_find_29 rfl ?_
    refine x_getR gX_26 tX_0 rfl dX_find_30 ?_
    refine x_iloadn dX_find_33 rfl ?_
    refine x_iloadn dX_find_34 rfl ?_
    refine x_cvni hf (kDe_lookUp X.hst) iDe_lookUp lX_168 tX_16 rfl rfl (by decide) (Nat.le_of_ble_eq_true rfl) dX_find_35 (fun v6 M5 hf => ?_)
    exact x_iret (rt_x hf) rfl dX_find_38
  · exact x_throw (rt_x hf) (by decide) eX_45_47 (by decide) (by decide) ⟨Nat.le_of_ble_eq_true rfl, Nat.le_of_ble_eq_true rfl, Nat.le_of_ble_eq_true rfl, Nat.le_of_ble_eq_true rfl⟩ dX_find_16 dX_find_19 dX_find_20 dX_find_23
theorem kX_find {l : Launch} (hl : l.stackTraces = false) {x1 : Int} {x2 : Int} {M : Mm} (w : Nat × Int × Mm) (hf : fX_find x1 x2 M = some w) : Ct l yX_find (rmn 8 133) TX mvX false (some .int) [.inr 0, .inl x1, .inl x2] M w := ct_of hl (by decide) iX_find.1 (Nat.le_of_ble_eq_true rfl) (fun X => wX_find X hf)
def fX_letterOf (x0 : Int) (x1 : Int) (M : Mm) : Option (Int × Mm) :=
  mushr x0 (8 * x1) fun v1 =>
  some ((v1 % 256), M)
set_option maxRecDepth 10000 in
theorem wX_letterOf {v0 : Int} {M9 : Mm} (X : Cy p l e (rmn 0 0) s m args below meth c D aK TX mvX false a0 "PackedImage" cX_letterOf 2 (some .int) (0, v0, M9)) {x0 : Int} {x1 : Int} {M : Mm} (hf : fX_letterOf x0 x1 M = some (v0, M9)) : Wm X 0 [some (.inl x0), some (.inl x1)] [] M := by
  unfold fX_letterOf at hf
  refine x_iloadn dX_letterOf_0 rfl ?_
  refine x_bipush dX_letterOf_1 (by decide) ?_
  refine x_iloadn dX_letterOf_3 rfl ?_
  refine x_imul dX_letterOf_4 ?_
  refine x_iushr hf dX_letterOf_5 (fun v1 hf => ?_)
  refine x_sipush dX_letterOf_6 (by decide) ?_
  refine x_iandm (an255 _) dX_letterOf_9 ?_
  exact x_iret (rt_n hf) rfl dX_letterOf_10
theorem kX_letterOf {l : Launch} (hl : l.stackTraces = false) {x0 : Int} {x1 : Int} {M : Mm} (v0 : Int) (M9 : Mm) (hf : fX_letterOf x0 x1 M = some (v0, M9)) : Ct l yX_letterOf (rmn 0 0) TX mvX false (some .int) [.inl x0, .inl x1] M (0, v0, M9) := ct_of hl (by decide) iX_letterOf.1 (Nat.le_of_ble_eq_true rfl) (fun X => wX_letterOf X hf)
def fX_layLetterAhead (x1 : Int) (M : Mm) : Option (Int × Mm) :=
  mlt (M 0 5) 20
    (mwr M 26 20 (M 0 5) x1 fun M1 =>
    mput M1 0 5 ((M1 0 5) + 1) fun M2 =>
    some (0, M2))
    (some (0, M))
set_option maxRecDepth 10000 in
theorem wX_layLetterAhead {v0 : Int} {M9 : Mm} (X : Cy p l e (rmn 0 0) s m args below meth c D aK TX mvX false a0 "PackedImage" cX_layLetterAhead 2 none (0, v0, M9)) {x1 : Int} {M : Mm} (hf : fX_layLetterAhead x1 M = some (v0, M9)) : Wm X 0 [some (.inr 0), some (.inl x1)] [] M := by
  unfold fX_layLetterAhead at hf
  refine x_aloadn dX_layLetterAhead_0 rfl ?_
  refine x_getI gX_41 tX_0 rfl dX_layLetterAhead_1 ?_
  refine x_aloadn dX_layLetterAhead_4 rfl ?_
  refine x_getR gX_37 tX_0 rfl dX_layLetterAhead_5 ?_
  refine x_alen tX_26 dX_layLetterAhead_8 ?_
  refine x_ge hf dX_layLetterAhead_9 rfl (fun hf => ?_) (fun hf => ?_)
  · exact x_vret ⟨_, rt_n hf⟩ rfl dX_layLetterAhead_32
  · refine x_aloadn dX_layLetterAhead_12 rfl ?_
    refine x_getR gX_37 tX_0 rfl dX_layLetterAhead_13 ?_
    refine x_aloadn dX_layLetterAhead_16 rfl ?_
    refine x_getI gX_41 tX_0 rfl dX_layLetterAhead_17 ?_
    refine x_iloadn dX_layLetterAhead_20 rfl ?_
    refine x_iast hf tX_26 (by decide) dX_layLetterAhead_21 (fun M1 hf => ?_)
    refine x_aloadn dX_layLetterAhead_22 rfl ?_
    refine x_dup dX_layLetterAhead_23 ?_
    refine x_getI gX_41 tX_0 rfl dX_layLetterAhead_24 ?_
    refine x_iconst dX_layLetterAhead_27 ?_
    refine x_iadd dX_layLetterAhead_28 ?_
    refine x_put hf gX_41 pX_5 tX_0 rfl dX_layLetterAhead_29 (fun M2 hf => ?_)
    exact x_vret ⟨_, rt_n hf⟩ rfl dX_layLetterAhead_32
theorem kX_layLetterAhead {l : Launch} (hl : l.stackTraces = false) {x1 : Int} {M : Mm} (v0 : Int) (M9 : Mm) (hf : fX_layLetterAhead x1 M = some (v0, M9)) : Ct l yX_layLetterAhead (rmn 0 0) TX mvX false none [.inr 0, .inl x1] M (0, v0, M9) := ct_of hl (by decide) iX_layLetterAhead.1 (Nat.le_of_ble_eq_true rfl) (fun X => wX_layLetterAhead X hf)
def fX_layAhead_30 : Nat → Int → Int → Mm → Option (Int × Mm)
  | 0, _, _, _ => none
  | n+1, y1, y3, M =>
    mlt y3 0
      (some (0, M))
      (mcn (fX_letterOf y1 y3 M) fun v3 M2 =>
      mcn (fX_layLetterAhead v3 M2) fun _ M4 =>
      (fX_layAhead_30 n) y1 (y3 + (-1)) M4)
def fX_layAhead_21 (y1 y2 : Int) (M : Mm) : Option (Int × Mm) :=
  mput M 0 5 0 fun M1 =>
  fX_layAhead_30 FU y1 (y2 - 1) M1
def fX_layAhead_2 : Nat → Int → Int → Mm → Option (Int × Mm)
  | 0, _, _, _ => none
  | n+1, y1, y2, M =>
    mlt y2 4
      (mcn (fX_letterOf y1 y2 M) fun v6 M5 =>
      meq v6 0
        (fX_layAhead_21 y1 y2 M5)
        ((fX_layAhead_2 n) y1 (y2 + 1) M5))
      (fX_layAhead_21 y1 y2 M)
def fX_layAhead (x1 : Int) (M : Mm) : Option (Int × Mm) :=
  fX_layAhead_2 FU x1 0 M
set_option maxRecDepth 10000 in
theorem wX_layAhead_30 {v0 : Int} {M9 : Mm} (X : Cy p l e (rmn 1 21) s m args below meth c D aK TX mvX false a0 "PackedImage" cX_layAhead 4 none (0, v0, M9)) : ∀ (n : Nat) (y1 : Int) (y3 : Int) (M : Mm), fX_layAhead_30 n y1 y3 M = some (v0, M9) → Wm X 30 [some (.inr 0), some (.inl y1), none, some (.inl y3)] [] M := by
  intro n
  induction n with
  | zero => intro y1 y3 M hf; exact nomatch (show (none : Option (Int × Mm)) = _ from hf)
  | succ n ih =>
    intro y1 y3 M hf
    rw [fX_layAhead_30] at hf
    refine x_iloadn dX_layAhead_30 rfl ?_
    refine x_lt0 hf dX_layAhead_31 rfl (fun hf => ?_) (fun hf => ?_)
    · exact x_vret ⟨_, rt_n hf⟩ rfl dX_layAhead_49
    · refine x_aloadn dX_layAhead_34 rfl ?_
      refine x_iloadn dX_layAhead_35 rfl ?_
      refine x_iloadn dX_layAhead_36 rfl ?_
      refine x_csni hf (kX_letterOf X.hst) iX_letterOf lX_236 rfl (by decide) (Nat.le_of_ble_eq_true rfl) dX_layAhead_37 (fun v3 M2 hf => ?_)
      refine x_cvnv hf (kX_layLetterAhead X.hst) iX_layLetterAhead lX_239 tX_0 rfl rfl (by decide) (Nat.le_of_ble_eq_true rfl) dX_layAhead_40 (fun _ M4 hf => ?_)
      refine x_iinc dX_layAhead_43 rfl (by decide) ?_
      refine x_goto (tgt := 30) dX_layAhead_46 rfl ?_
      exact x_mask [true, true, false, true] (ih _ _ _ hf)
set_option maxRecDepth 10000 in
theorem wX_layAhead_21 {v0 : Int} {M9 : Mm} (X : Cy p l e (rmn 1 21) s m args below meth c D aK TX mvX false a0 "PackedImage" cX_layAhead 4 none (0, v0, M9)) : ∀ (y1 : Int) (y2 : Int) (M : Mm), fX_layAhead_21 y1 y2 M = some (v0, M9) → Wm X 21 [some (.inr 0), some (.inl y1), some (.inl y2), none] [] M := by
  intro y1 y2 M hf
  unfold fX_layAhead_21 at hf
  refine x_aloadn dX_layAhead_21 rfl ?_
  refine x_iconst dX_layAhead_22 ?_
  refine x_put hf gX_41 pX_5 tX_0 rfl dX_layAhead_23 (fun M1 hf => ?_)
  refine x_iloadn dX_layAhead_26 rfl ?_
  refine x_iconst dX_layAhead_27 ?_
  refine x_isub dX_layAhead_28 ?_
  refine x_istoren dX_layAhead_29 (by decide) ?_
  exact x_mask [true, true, false, true] (wX_layAhead_30 X FU _ _ _ hf)
set_option maxRecDepth 10000 in
theorem wX_layAhead_2 {v0 : Int} {M9 : Mm} (X : Cy p l e (rmn 1 21) s m args below meth c D aK TX mvX false a0 "PackedImage" cX_layAhead 4 none (0, v0, M9)) : ∀ (n : Nat) (y1 : Int) (y2 : Int) (M : Mm), fX_layAhead_2 n y1 y2 M = some (v0, M9) → Wm X 2 [some (.inr 0), some (.inl y1), some (.inl y2), none] [] M := by
  intro n
  induction n with
  | zero => intro y1 y2 M hf; exact nomatch (show (none : Option (Int × Mm)) = _ from hf)
  | succ n ih =>
    intro y1 y2 M hf
    rw [fX_layAhead_2] at hf
    refine x_iloadn dX_layAhead_2 rfl ?_
    refine x_iconst dX_layAhead_3 ?_
    refine x_ge hf dX_layAhead_4 rfl (fun hf => ?_) (fun hf => ?_)
    · exact x_mask [true, true, true, false] (wX_layAhead_21 X _ _ _ hf)
    · refine x_iloadn dX_layAhead_7 rfl ?_
      refine x_iloadn dX_layAhead_8 rfl ?_
      refine x_csni hf (kX_letterOf X.hst) iX_letterOf lX_236 rfl (by decide) (Nat.le_of_ble_eq_true rfl) dX_layAhead_9 (fun v6 M5 hf => ?_)
      refine x_eq0 hf dX_layAhead_12 rfl (fun hf => ?_) (fun hf => ?_)
      · exact x_mask [true, true, true, false] (wX_layAhead_21 X _ _ _ hf)
      · refine x_iinc dX_layAhead_15 rfl (by decide) ?_
        refine x_goto (tgt := 2) dX_layAhead_18 rfl ?_
        exact x_mask [true, true, true, false] (ih _ _ _ hf)
set_option maxRecDepth 10000 in
theorem wX_layAhead {v0 : Int} {M9 : Mm} (X : Cy p l e (rmn 1 21) s m args below meth c D aK TX mvX false a0 "PackedImage" cX_layAhead 4 none (0, v0, M9)) {x1 : Int} {M : Mm} (hf : fX_layAhead x1 M = some (v0, M9)) : Wm X 0 [some (.inr 0), some (.inl x1), none, none] [] M := by
  unfold fX_layAhead at hf
  refine x_iconst dX_layAhead_0 ?_
  refine x_istoren dX_layAhead_1 (by decide) ?_
  exact x_mask [true, true, true, false] (wX_layAhead_2 X FU _ _ _ hf)
theorem kX_layAhead {l : Launch} (hl : l.stackTraces = false) {x1 : Int} {M : Mm} (v0 : Int) (M9 : Mm) (hf : fX_layAhead x1 M = some (v0, M9)) : Ct l yX_layAhead (rmn 1 21) TX mvX false none [.inr 0, .inl x1] M (0, v0, M9) := ct_of hl (by decide) iX_layAhead.1 (Nat.le_of_ble_eq_true rfl) (fun X => wX_layAhead X hf)
def fX_nextLetter (M : Mm) : Option (Int × Mm) :=
  mlt 0 (M 0 5)
    (mput M 0 5 ((M 0 5) - 1) fun M1 =>
    mrd M1 26 20 (M1 0 5) fun v2 =>
    some (v2, M1))
    (some (0, M))
set_option maxRecDepth 10000 in
theorem wX_nextLetter {v0 : Int} {M9 : Mm} (X : Cy p l e (rmn 0 0) s m args below meth c D aK TX mvX false a0 "PackedImage" cX_nextLetter 1 (some .int) (0, v0, M9)) {M : Mm} (hf : fX_nextLetter M = some (v0, M9)) : Wm X 0 [some (.inr 0)] [] M := by
  unfold fX_nextLetter at hf
  refine x_aloadn dX_nextLetter_0 rfl ?_
  refine x_getI gX_41 tX_0 rfl dX_nextLetter_1 ?_
  refine x_gt0 hf dX_nextLetter_4 rfl (fun hf => ?_) (fun hf => ?_)
  · refine x_aloadn dX_nextLetter_9 rfl ?_
    refine x_dup dX_nextLetter_10 ?_
    refine x_getI gX_41 tX_0 rfl dX_nextLetter_11 ?_
    refine x_iconst dX_nextLetter_14 ?_
    refine x_isub dX_nextLetter_15 ?_
    refine x_put hf gX_41 pX_5 tX_0 rfl dX_nextLetter_16 (fun M1 hf => ?_)
    refine x_aloadn dX_nextLetter_19 rfl ?_
    refine x_getR gX_37 tX_0 rfl dX_nextLetter_20 ?_
    refine x_aloadn dX_nextLetter_23 rfl ?_
    refine x_getI gX_41 tX_0 rfl dX_nextLetter_24 ?_
    refine x_iald hf tX_26 (by decide) dX_nextLetter_27 (fun v2 hf => ?_)
    exact x_iret (rt_n hf) rfl dX_nextLetter_28
  · refine x_iconst dX_nextLetter_7 ?_
    exact x_iret (rt_n hf) rfl dX_nextLetter_8
theorem kX_nextLetter {l : Launch} (hl : l.stackTraces = false) {M : Mm} (v0 : Int) (M9 : Mm) (hf : fX_nextLetter M = some (v0, M9)) : Ct l yX_nextLetter (rmn 0 0) TX mvX false (some .int) [.inr 0] M (0, v0, M9) := ct_of hl (by decide) iX_nextLetter.1 (Nat.le_of_ble_eq_true rfl) (fun X => wX_nextLetter X hf)
def fX_layLinkAhead_11 : Nat → Int → Int → Mm → Option (Int × Mm)
  | 0, _, _, _ => none
  | n+1, y1, y2, M =>
    mlt y2 0
      (some (0, M))
      (mcn (fDe_dataAt y1 y2 M) fun v4 M3 =>
      mcn (fX_layLetterAhead v4 M3) fun _ M5 =>
      (fX_layLinkAhead_11 n) y1 (y2 + (-1)) M5)
def fX_layLinkAhead (x1 : Int) (M : Mm) : Option (Int × Mm) :=
  mcn (fDe_sizeOf x1 M) fun v2 M1 =>
  fX_layLinkAhead_11 FU x1 (v2 - 1) M1
set_option maxRecDepth 10000 in
theorem wX_layLinkAhead_11 {v0 : Int} {M9 : Mm} (X : Cy p l e (rmn 4 88) s m args below meth c D aK TX mvX false a0 "PackedImage" cX_layLinkAhead 3 none (0, v0, M9)) : ∀ (n : Nat) (y1 : Int) (y2 : Int) (M : Mm), fX_layLinkAhead_11 n y1 y2 M = some (v0, M9) → Wm X 11 [some (.inr 0), some (.inl y1), some (.inl y2)] [] M := by
  intro n
  induction n with
  | zero => intro y1 y2 M hf; exact nomatch (show (none : Option (Int × Mm)) = _ from hf)
  | succ n ih =>
    intro y1 y2 M hf
    rw [fX_layLinkAhead_11] at hf
    refine x_iloadn dX_layLinkAhead_11 rfl ?_
    refine x_lt0 hf dX_layLinkAhead_12 rfl (fun hf => ?_) (fun hf => ?_)
    · exact x_vret ⟨_, rt_n hf⟩ rfl dX_layLinkAhead_34
    · refine x_aloadn dX_layLinkAhead_15 rfl ?_
      refine x_aloadn dX_layLinkAhead_16 rfl ?_
      refine x_getR gX_26 tX_0 rfl dX_layLinkAhead_17 ?_
      refine x_iloadn dX_layLinkAhead_20 rfl ?_
      refine x_iloadn dX_layLinkAhead_21 rfl ?_
      refine x_cvni hf (kDe_dataAt X.hst) iDe_dataAt lX_162 tX_16 rfl rfl (by decide) (Nat.le_of_ble_eq_true rfl) dX_layLinkAhead_22 (fun v4 M3 hf => ?_)
      refine x_cvnv hf (kX_layLetterAhead X.hst) iX_layLetterAhead lX_239 tX_0 rfl rfl (by decide) (Nat.le_of_ble_eq_true rfl) dX_layLinkAhead_25 (fun _ M5 hf => ?_)
      refine x_iinc dX_layLinkAhead_28 rfl (by decide) ?_
      refine x_goto (tgt := 11) dX_layLinkAhead_31 rfl ?_
      exact x_mask [true, true, true] (ih _ _ _ hf)
set_option maxRecDepth 10000 in
theorem wX_layLinkAhead {v0 : Int} {M9 : Mm} (X : Cy p l e (rmn 4 88) s m args below meth c D aK TX mvX false a0 "PackedImage" cX_layLinkAhead 3 none (0, v0, M9)) {x1 : Int} {M : Mm} (hf : fX_layLinkAhead x1 M = some (v0, M9)) : Wm X 0 [some (.inr 0), some (.inl x1), none] [] M := by
  unfold fX_layLinkAhead at hf
  refine x_aloadn dX_layLinkAhead_0 rfl ?_
  refine x_getR gX_26 tX_0 rfl dX_layLinkAhead_1 ?_
  refine x_iloadn dX_layLinkAhead_4 rfl ?_
  refine x_cvni hf (kDe_sizeOf X.hst) iDe_sizeOf lX_144 tX_16 rfl rfl (by decide) (Nat.le_of_ble_eq_true rfl) dX_layLinkAhead_5 (fun v2 M1 hf => ?_)
  refine x_iconst dX_layLinkAhead_8 ?_
  refine x_isub dX_layLinkAhead_9 ?_
  refine x_istoren dX_layLinkAhead_10 (by decide) ?_
  exact x_mask [true, true, true] (wX_layLinkAhead_11 X FU _ _ _ hf)
theorem kX_layLinkAhead {l : Launch} (hl : l.stackTraces = false) {x1 : Int} {M : Mm} (v0 : Int) (M9 : Mm) (hf : fX_layLinkAhead x1 M = some (v0, M9)) : Ct l yX_layLinkAhead (rmn 4 88) TX mvX false none [.inr 0, .inl x1] M (0, v0, M9) := ct_of hl (by decide) iX_layLinkAhead.1 (Nat.le_of_ble_eq_true rfl) (fun X => wX_layLinkAhead X hf)
end WK
