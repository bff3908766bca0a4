section WK
variable {p : Program} {l : Launch} {e : Env} {s : State} {m : MethodId} {args : Array Value} {below : List Frame} {meth : Method} {c : Code} {D : va_G} {aK : Nat → ClassId} {a0 : Nat → Nat}
def fX_resolve_21 : Nat → Int → Int → Int → Mm → Option (Nat × Int × Mm)
  | 0, _, _, _, _ => none
  | n+1, y2, y3, y4, M =>
    mlt y4 20
      (mlt 0 (M 0 5)
        (mcn (fDe_kindOf y2 M) fun v5 M4 =>
        meq v5 0
          (mcn (fX_nextLetter M4) fun v7 M6 =>
          mcn (fDe_lookUp y2 v7 M6) fun v9 M8 =>
          meq v9 (-1)
            (some (0, (-1), M8))
            (mcx (fX_demandGood v9 M8) fun _ M10 =>
            mcn (fDe_kindOf v9 M10) fun v12 M11 =>
            meq v12 2
              (meq y3 4
                (some (0, (-1), M11))
                (mcn (fDe_sizeOf v9 M11) fun v14 M13 =>
                mlt 4 v14
                  (some (0, (-1), M13))
                  (mcn (fX_layLinkAhead v9 M13) fun _ M15 =>
                  (fX_resolve_21 n) 0 (y3 + 1) (y4 + 1) M15)))
              ((fX_resolve_21 n) v9 y3 (y4 + 1) M11)))
          (some (0, (-1), M4)))
        (some (0, y2, M)))
      (some (0, y2, M))
def fX_resolve (x1 : Int) (M : Mm) : Option (Nat × Int × Mm) :=
  mcx (fX_demandMounted M) fun _ M1 =>
  mcx (fX_demandGood 0 M1) fun _ M2 =>
  mcn (fX_layAhead x1 M2) fun _ M3 =>
  fX_resolve_21 FU 0 0 0 M3
set_option maxRecDepth 10000 in
theorem wX_resolve_21 {r : Nat × Int × Mm} (X : Cy p l e (rmn 7 133) s m args below meth c D aK TX mvX false a0 "PackedImage" cX_resolve 5 (some .int) r) : ∀ (n : Nat) (y2 : Int) (y3 : Int) (y4 : Int) (M : Mm), fX_resolve_21 n y2 y3 y4 M = some r → Wm X 21 [some (.inr 0), none, some (.inl y2), some (.inl y3), some (.inl y4)] [] M := by
  intro n
  induction n with
  | zero => intro y2 y3 y4 M hf; exact nomatch (show (none : Option (Nat × Int × Mm)) = _ from hf)
  | succ n ih =>
    intro y2 y3 y4 M hf
    rw [fX_resolve_21] at hf
    refine x_iload dX_resolve_21 rfl ?_
    refine x_aloadn dX_resolve_23 rfl ?_
    refine x_getR gX_37 tX_0 rfl dX_resolve_24 ?_
    refine x_alen tX_26 dX_resolve_27 ?_
    refine x_ge hf dX_resolve_28 rfl (fun hf => ?_) (fun hf => ?_)
    · refine x_iloadn dX_resolve_123 rfl ?_
      exact x_iret (rt_x hf) rfl dX_resolve_124
    · refine x_aloadn dX_resolve_31 rfl ?_
      refine x_getI gX_41 tX_0 rfl dX_resolve_32 ?_
      refine x_le0 hf dX_resolve_35 rfl (fun hf => ?_) (fun hf => ?_)
      · refine x_iloadn dX_resolve_123 rfl ?_
        exact x_iret (rt_x hf) rfl dX_resolve_124
      · refine x_aloadn dX_resolve_38 rfl ?_
        refine x_getR gX_26 tX_0 rfl dX_resolve_39 ?_
        refine x_iloadn dX_resolve_42 rfl ?_
        refine x_cvni hf (kDe_kindOf X.hst) iDe_kindOf lX_138 tX_16 rfl rfl (by decide) (Nat.le_of_ble_eq_true rfl) dX_resolve_43 (fun v5 M4 hf => ?_)
        refine x_eq0 hf dX_resolve_46 rfl (fun hf => ?_) (fun hf => ?_)
        · refine x_aloadn dX_resolve_51 rfl ?_
          refine x_getR gX_26 tX_0 rfl dX_resolve_52 ?_
          refine x_iloadn dX_resolve_55 rfl ?_
          refine x_aloadn dX_resolve_56 rfl ?_
          refine x_cvni hf (kX_nextLetter X.hst) iX_nextLetter lX_177 tX_0 rfl rfl (by decide) (Nat.le_of_ble_eq_true rfl) dX_resolve_57 (fun v7 M6 hf => ?_)
          refine x_cvni hf (kDe_lookUp X.hst) iDe_lookUp lX_168 tX_16 rfl rfl (by decide) (Nat.le_of_ble_eq_true rfl) dX_resolve_60 (fun v9 M8 hf => ?_)
          refine x_istoren dX_resolve_63 (by decide) ?_
          refine x_iloadn dX_resolve_64 rfl ?_
          refine x_iconst dX_resolve_65 ?_
          refine x_ne hf dX_resolve_66 rfl (fun hf => ?_) (fun hf => ?_)
          · refine x_aloadn dX_resolve_71 rfl ?_
            refine x_iloadn dX_resolve_72 rfl ?_
            refine x_cvxv hf (kX_demandGood X.hst) iX_demandGood lX_156 tX_0 rfl rfl (by decide) (Nat.le_of_ble_eq_true rfl) dX_resolve_73 (fun _ M10 hf => ?_)
            refine x_aloadn dX_resolve_76 rfl ?_
            refine x_getR gX_26 tX_0 rfl dX_resolve_77 ?_
            refine x_iloadn dX_resolve_80 rfl ?_
            refine x_cvni hf (kDe_kindOf X.hst) iDe_kindOf lX_138 tX_16 rfl rfl (by decide) (Nat.le_of_ble_eq_true rfl) dX_resolve_81 (fun v12 M11 hf => ?_)
            refine x_iconst dX_resolve_84 ?_
            refine x_ne hf dX_resolve_85 rfl (fun hf => ?_) (fun hf => ?_)
            · refine x_iinc dX_resolve_117 rfl (by decide) ?_
              refine x_goto (tgt := 21) dX_resolve_120 rfl ?_
              exact x_mask [true, false, true, true, true] (ih _ _ _ _ hf)
            · refine x_iloadn dX_resolve_88 rfl ?_
              refine x_iconst dX_resolve_89 ?_
              refine x_eq hf dX_resolve_90 rfl (fun hf => ?_) (fun hf => ?_)
              · refine x_iconst dX_resolve_105 ?_
                exact x_iret (rt_x hf) rfl dX_resolve_106
              · refine x_aloadn dX_resolve_93 rfl ?_
                refine x_getR gX_26 tX_0 rfl dX_resolve_94 ?_
                refine x_iloadn dX_resolve_97 rfl ?_
                refine x_cvni hf (kDe_sizeOf X.hst) iDe_sizeOf lX_144 tX_16 rfl rfl (by decide) (Nat.le_of_ble_eq_true rfl) dX_resolve_98 (fun v14 M13 hf => ?_)
                refine x_iconst dX_resolve_101 ?_
                refine x_le hf dX_resolve_102 rfl (fun hf => ?_) (fun hf => ?_)
                · refine x_iinc dX_resolve_107 rfl (by decide) ?_
                  refine x_aloadn dX_resolve_110 rfl ?_
                  refine x_iloadn dX_resolve_111 rfl ?_
                  refine x_cvnv hf (kX_layLinkAhead X.hst) iX_layLinkAhead lX_181 tX_0 rfl rfl (by decide) (Nat.le_of_ble_eq_true rfl) dX_resolve_112 (fun _ M15 hf => ?_)
                  refine x_iconst dX_resolve_115 ?_
                  refine x_istoren dX_resolve_116 (by decide) ?_
                  refine x_iinc dX_resolve_117 rfl (by decide) ?_
                  refine x_goto (tgt := 21) dX_resolve_120 rfl ?_
                  exact x_mask [true, false, true, true, true] (ih _ _ _ _ hf)
                · refine x_iconst dX_resolve_105 ?_
                  exact x_iret (rt_x hf) rfl dX_resolve_106
          · refine x_iconst dX_resolve_69 ?_
            exact x_iret (rt_x hf) rfl dX_resolve_70
        · refine x_iconst dX_resolve_49 ?_
          exact x_iret (rt_x hf) rfl dX_resolve_50
set_option maxRecDepth 10000 in
theorem wX_resolve {r : Nat × Int × Mm} (X : Cy p l e (rmn 7 133) s m args below meth c D aK TX mvX false a0 "PackedImage" cX_resolve 5 (some .int) r) {x1 : Int} {M : Mm} (hf : fX_resolve x1 M = some r) : Wm X 0 [some (.inr 0), some (.inl x1), none, none, none] [] M := by
  unfold fX_resolve at hf
  refine x_aloadn dX_resolve_0 rfl ?_
  refine x_cvxv hf (kX_demandMounted X.hst) iX_demandMounted lX_171 tX_0 rfl rfl (by decide) (Nat.le_of_ble_eq_true rfl) dX_resolve_1 (fun _ M1 hf => ?_)
  refine x_aloadn dX_resolve_4 rfl ?_
  refine x_iconst dX_resolve_5 ?_
  refine x_cvxv hf (kX_demandGood X.hst) iX_demandGood lX_156 tX_0 rfl rfl (by decide) (Nat.le_of_ble_eq_true rfl) dX_resolve_6 (fun _ M2 hf => ?_)
  refine x_aloadn dX_resolve_9 rfl ?_
  refine x_iloadn dX_resolve_10 rfl ?_
  refine x_cvnv hf (kX_layAhead X.hst) iX_layAhead lX_174 tX_0 rfl rfl (by decide) (Nat.le_of_ble_eq_true rfl) dX_resolve_11 (fun _ M3 hf => ?_)
  refine x_iconst dX_resolve_14 ?_
  refine x_istoren dX_resolve_15 (by decide) ?_
  refine x_iconst dX_resolve_16 ?_
  refine x_istoren dX_resolve_17 (by decide) ?_
  refine x_iconst dX_resolve_18 ?_
  refine x_istore dX_resolve_19 (by decide) ?_
  exact x_mask [true, false, true, true, true] (wX_resolve_21 X FU _ _ _ _ hf)
theorem kX_resolve {l : Launch} (hl : l.stackTraces = false) {x1 : Int} {M : Mm} (w : Nat × Int × Mm) (hf : fX_resolve x1 M = some w) : Ct l yX_resolve (rmn 7 133) TX mvX false (some .int) [.inr 0, .inl x1] M w := ct_of hl (by decide) iX_resolve.1 (Nat.le_of_ble_eq_true rfl) (fun X => wX_resolve X hf)
def fX_cache (x1 : Int) (M : Mm) : Option (Int × Mm) :=
  meq (M 16 2) 0
    (some (0, M))
    (meq x1 0
      (some ((M 19 4), M))
      (some ((M 19 3), M)))
set_option maxRecDepth 10000 in
theorem wX_cache {v0 : Int} {M9 : Mm} (X : Cy p l e (rmn 0 0) s m args below meth c D aK TX mvX false a0 "PackedImage" cX_cache 2 (some .int) (0, v0, M9)) {x1 : Int} {M : Mm} (hf : fX_cache x1 M = some (v0, M9)) : Wm X 0 [some (.inr 0), some (.inl x1)] [] M := by
  unfold fX_cache at hf
  refine x_aloadn dX_cache_0 rfl ?_
  refine x_getR gX_26 tX_0 rfl dX_cache_1 ?_
  refine x_getI gX_184 tX_16 rfl dX_cache_4 ?_
  refine x_ne0 hf dX_cache_7 rfl (fun hf => ?_) (fun hf => ?_)
  · refine x_iloadn dX_cache_12 rfl ?_
    refine x_eq0 hf dX_cache_13 rfl (fun hf => ?_) (fun hf => ?_)
    · refine x_aloadn dX_cache_26 rfl ?_
      refine x_getR gX_33 tX_0 rfl dX_cache_27 ?_
      refine x_getI gX_191 tX_19 rfl dX_cache_30 ?_
      exact x_iret (rt_n hf) rfl dX_cache_33
    · refine x_aloadn dX_cache_16 rfl ?_
      refine x_getR gX_33 tX_0 rfl dX_cache_17 ?_
      refine x_getI gX_188 tX_19 rfl dX_cache_20 ?_
      refine x_goto (tgt := 33) dX_cache_23 rfl ?_
      exact x_iret (rt_n hf) rfl dX_cache_33
  · refine x_iconst dX_cache_10 ?_
    exact x_iret (rt_n hf) rfl dX_cache_11
theorem kX_cache {l : Launch} (hl : l.stackTraces = false) {x1 : Int} {M : Mm} (v0 : Int) (M9 : Mm) (hf : fX_cache x1 M = some (v0, M9)) : Ct l yX_cache (rmn 0 0) TX mvX false (some .int) [.inr 0, .inl x1] M (0, v0, M9) := ct_of hl (by decide) iX_cache.1 (Nat.le_of_ble_eq_true rfl) (fun X => wX_cache X hf)
def fX_hasBadCluster_2 : Nat → Int → Int → Mm → Option (Int × Mm)
  | 0, _, _, _ => none
  | n+1, y1, y2, M =>
    mcn (fDe_blocksOf y1 M) fun v2 M1 =>
    mlt y2 v2
      (mcn (fDe_unpack y1 y2 M1) fun v4 M3 =>
      meq v4 0
        (some (1, M3))
        ((fX_hasBadCluster_2 n) y1 (y2 + 1) M3))
      (some (0, M1))
def fX_hasBadCluster (x1 : Int) (M : Mm) : Option (Int × Mm) :=
  fX_hasBadCluster_2 FU x1 0 M
set_option maxRecDepth 10000 in
theorem wX_hasBadCluster_2 {v0 : Int} {M9 : Mm} (X : Cy p l e (rmn 4 99) s m args below meth c D aK TX mvX false a0 "PackedImage" cX_hasBadCluster 3 (some .boolean) (0, v0, M9)) : ∀ (n : Nat) (y1 : Int) (y2 : Int) (M : Mm), fX_hasBadCluster_2 n y1 y2 M = some (v0, M9) → Wm X 2 [some (.inr 0), some (.inl y1), some (.inl y2)] [] M := by
  intro n
  induction n with
  | zero => intro y1 y2 M hf; exact nomatch (show (none : Option (Int × Mm)) = _ from hf)
  | succ n ih =>
    intro y1 y2 M hf
    rw [fX_hasBadCluster_2] at hf
    refine x_iloadn dX_hasBadCluster_2 rfl ?_
    refine x_aloadn dX_hasBadCluster_3 rfl ?_
    refine x_getR gX_26 tX_0 rfl dX_hasBadCluster_4 ?_
    refine x_iloadn dX_hasBadCluster_7 rfl ?_
    refine x_cvni hf (kDe_blocksOf X.hst) iDe_blocksOf lX_233 tX_16 rfl rfl (by decide) (Nat.le_of_ble_eq_true rfl) dX_hasBadCluster_8 (fun v2 M1 hf => ?_)
    refine x_ge hf dX_hasBadCluster_11 rfl (fun hf => ?_) (fun hf => ?_)
    · refine x_iconst dX_hasBadCluster_41 ?_
      exact x_zret (rt_n hf) (by decide) rfl dX_hasBadCluster_42
    · refine x_aloadn dX_hasBadCluster_14 rfl ?_
      refine x_getR gX_26 tX_0 rfl dX_hasBadCluster_15 ?_
      refine x_iloadn dX_hasBadCluster_18 rfl ?_
      refine x_iloadn dX_hasBadCluster_19 rfl ?_
      refine x_aloadn dX_hasBadCluster_20 rfl ?_
      refine x_getR gX_33 tX_0 rfl dX_hasBadCluster_21 ?_
      refine x_getR gX_206 tX_19 rfl dX_hasBadCluster_24 ?_
      refine x_cvni hf (kDe_unpack X.hst) iDe_unpack lX_210 tX_16 rfl rfl (by decide) (Nat.le_of_ble_eq_true rfl) dX_hasBadCluster_27 (fun v4 M3 hf => ?_)
      refine x_ne0 hf dX_hasBadCluster_30 rfl (fun hf => ?_) (fun hf => ?_)
      · refine x_iinc dX_hasBadCluster_35 rfl (by decide) ?_
        refine x_goto (tgt := 2) dX_hasBadCluster_38 rfl ?_
        exact x_mask [true, true, true] (ih _ _ _ hf)
      · refine x_iconst dX_hasBadCluster_33 ?_
        exact x_zret (rt_n hf) (by decide) rfl dX_hasBadCluster_34
set_option maxRecDepth 10000 in
theorem wX_hasBadCluster {v0 : Int} {M9 : Mm} (X : Cy p l e (rmn 4 99) s m args below meth c D aK TX mvX false a0 "PackedImage" cX_hasBadCluster 3 (some .boolean) (0, v0, M9)) {x1 : Int} {M : Mm} (hf : fX_hasBadCluster x1 M = some (v0, M9)) : Wm X 0 [some (.inr 0), some (.inl x1), none] [] M := by
  unfold fX_hasBadCluster at hf
  refine x_iconst dX_hasBadCluster_0 ?_
  refine x_istoren dX_hasBadCluster_1 (by decide) ?_
  exact x_mask [true, true, true] (wX_hasBadCluster_2 X FU _ _ _ hf)
theorem kX_hasBadCluster {l : Launch} (hl : l.stackTraces = false) {x1 : Int} {M : Mm} (v0 : Int) (M9 : Mm) (hf : fX_hasBadCluster x1 M = some (v0, M9)) : Ct l yX_hasBadCluster (rmn 4 99) TX mvX false (some .boolean) [.inr 0, .inl x1] M (0, v0, M9) := ct_of hl (by decide) iX_hasBadCluster.1 (Nat.le_of_ble_eq_true rfl) (fun X => wX_hasBadCluster X hf)
def fDe_hasWrongEntry_4 : Nat → Int → Int → Int → Mm → Option (Int × Mm)
  | 0, _, _, _, _ => none
  | n+1, y1, y2, y3, M =>
    mcn (fDe_sizeOf y1 M) fun v2 M1 =>
    mlt y3 v2
      (mcn (fDe_dataAt y1 y3 M1) fun v4 M3 =>
      mcn (fDe_dataAt y1 (y3 + 1) M3) fun v6 M5 =>
      mlt y2 v4
        (mcn (fDe_isInode v6 M5) fun v8 M7 =>
        meq v8 0
          (some (1, M7))
          (mcn (fDe_kindOf v6 M7) fun v10 M9 =>
          mcn (fDe_dataAt y1 (y3 + 2) M9) fun v12 M11 =>
          meq v10 v12
            ((fDe_hasWrongEntry_4 n) y1 v4 (y3 + 3) M11)
            (some (1, M11))))
        (some (1, M5)))
      (some (0, M1))
def fDe_hasWrongEntry (x1 : Int) (M : Mm) : Option (Int × Mm) :=
  fDe_hasWrongEntry_4 FU x1 (-1) 0 M
set_option maxRecDepth 10000 in
theorem wDe_hasWrongEntry_4 {v0 : Int} {M9 : Mm} (X : Cy p l e (rmn 4 88) s m args below meth c D aK TX mvX false a0 "PackedImage$Device" cDe_hasWrongEntry 6 (some .boolean) (0, v0, M9)) : ∀ (n : Nat) (y1 : Int) (y2 : Int) (y3 : Int) (M : Mm), fDe_hasWrongEntry_4 n y1 y2 y3 M = some (v0, M9) → Wm X 4 [some (.inr 16), some (.inl y1), some (.inl y2), some (.inl y3), none, none] [] M := by
  intro n
  induction n with
  | zero => intro y1 y2 y3 M hf; exact nomatch (show (none : Option (Int × Mm)) = _ from hf)
  | succ n ih =>
    intro y1 y2 y3 M hf
    rw [fDe_hasWrongEntry_4] at hf
    refine x_iloadn dDe_hasWrongEntry_4 rfl ?_
    refine x_aloadn dDe_hasWrongEntry_5 rfl ?_
    refine x_iloadn dDe_hasWrongEntry_6 rfl ?_
    refine x_cvni hf (kDe_sizeOf X.hst) iDe_sizeOf lDe_69 tX_16 rfl rfl (by decide) (Nat.le_of_ble_eq_true rfl) dDe_hasWrongEntry_7 (fun v2 M1 hf => ?_)
    refine x_ge hf dDe_hasWrongEntry_10 rfl (fun hf => ?_) (fun hf => ?_)
    · refine x_iconst dDe_hasWrongEntry_74 ?_
      exact x_zret (rt_n hf) (by decide) rfl dDe_hasWrongEntry_75
    · refine x_aloadn dDe_hasWrongEntry_13 rfl ?_
      refine x_iloadn dDe_hasWrongEntry_14 rfl ?_
      refine x_iloadn dDe_hasWrongEntry_15 rfl ?_
      refine x_cvni hf (kDe_dataAt X.hst) iDe_dataAt lDe_105 tX_16 rfl rfl (by decide) (Nat.le_of_ble_eq_true rfl) dDe_hasWrongEntry_16 (fun v4 M3 hf => ?_)
      refine x_istore dDe_hasWrongEntry_19 (by decide) ?_
      refine x_aloadn dDe_hasWrongEntry_21 rfl ?_
      refine x_iloadn dDe_hasWrongEntry_22 rfl ?_
      refine x_iloadn dDe_hasWrongEntry_23 rfl ?_
      refine x_iconst dDe_hasWrongEntry_24 ?_
      refine x_iadd dDe_hasWrongEntry_25 ?_
      refine x_cvni hf (kDe_dataAt X.hst) iDe_dataAt lDe_105 tX_16 rfl rfl (by decide) (Nat.le_of_ble_eq_true rfl) dDe_hasWrongEntry_26 (fun v6 M5 hf => ?_)
      refine x_istore dDe_hasWrongEntry_29 (by decide) ?_
      refine x_iload dDe_hasWrongEntry_31 rfl ?_
      refine x_iloadn dDe_hasWrongEntry_33 rfl ?_
      refine x_le hf dDe_hasWrongEntry_34 rfl (fun hf => ?_) (fun hf => ?_)
      · refine x_iconst dDe_hasWrongEntry_63 ?_
        exact x_zret (rt_n hf) (by decide) rfl dDe_hasWrongEntry_64
      · refine x_aloadn dDe_hasWrongEntry_37 rfl ?_
        refine x_iload dDe_hasWrongEntry_38 rfl ?_
        refine x_cvni hf (kDe_isInode X.hst) iDe_isInode lDe_108 tX_16 rfl rfl (by decide) (Nat.le_of_ble_eq_true rfl) dDe_hasWrongEntry_40 (fun v8 M7 hf => ?_)
        refine x_eq0 hf dDe_hasWrongEntry_43 rfl (fun hf => ?_) (fun hf => ?_)
        · refine x_iconst dDe_hasWrongEntry_63 ?_
          exact x_zret (rt_n hf) (by decide) rfl dDe_hasWrongEntry_64
        · refine x_aloadn dDe_hasWrongEntry_46 rfl ?_
          refine x_iload dDe_hasWrongEntry_47 rfl ?_
          refine x_cvni hf (kDe_kindOf X.hst) iDe_kindOf lDe_75 tX_16 rfl rfl (by decide) (Nat.le_of_ble_eq_true rfl) dDe_hasWrongEntry_49 (fun v10 M9 hf => ?_)
          refine x_aloadn dDe_hasWrongEntry_52 rfl ?_
          refine x_iloadn dDe_hasWrongEntry_53 rfl ?_
          refine x_iloadn dDe_hasWrongEntry_54 rfl ?_
          refine x_iconst dDe_hasWrongEntry_55 ?_
          refine x_iadd dDe_hasWrongEntry_56 ?_
          refine x_cvni hf (kDe_dataAt X.hst) iDe_dataAt lDe_105 tX_16 rfl rfl (by decide) (Nat.le_of_ble_eq_true rfl) dDe_hasWrongEntry_57 (fun v12 M11 hf => ?_)
          refine x_eq hf dDe_hasWrongEntry_60 rfl (fun hf => ?_) (fun hf => ?_)
          · refine x_iload dDe_hasWrongEntry_65 rfl ?_
            refine x_istoren dDe_hasWrongEntry_67 (by decide) ?_
            refine x_iinc dDe_hasWrongEntry_68 rfl (by decide) ?_
            refine x_goto (tgt := 4) dDe_hasWrongEntry_71 rfl ?_
            exact x_mask [true, true, true, true, false, false] (ih _ _ _ _ hf)
          · refine x_iconst dDe_hasWrongEntry_63 ?_
            exact x_zret (rt_n hf) (by decide) rfl dDe_hasWrongEntry_64
set_option maxRecDepth 10000 in
theorem wDe_hasWrongEntry {v0 : Int} {M9 : Mm} (X : Cy p l e (rmn 4 88) s m args below meth c D aK TX mvX false a0 "PackedImage$Device" cDe_hasWrongEntry 6 (some .boolean) (0, v0, M9)) {x1 : Int} {M : Mm} (hf : fDe_hasWrongEntry x1 M = some (v0, M9)) : Wm X 0 [some (.inr 16), some (.inl x1), none, none, none, none] [] M := by
  unfold fDe_hasWrongEntry at hf
  refine x_iconst dDe_hasWrongEntry_0 ?_
  refine x_istoren dDe_hasWrongEntry_1 (by decide) ?_
  refine x_iconst dDe_hasWrongEntry_2 ?_
  refine x_istoren dDe_hasWrongEntry_3 (by decide) ?_
  exact x_mask [true, true, true, true, false, false] (wDe_hasWrongEntry_4 X FU _ _ _ _ hf)
theorem kDe_hasWrongEntry {l : Launch} (hl : l.stackTraces = false) {x1 : Int} {M : Mm} (v0 : Int) (M9 : Mm) (hf : fDe_hasWrongEntry x1 M = some (v0, M9)) : Ct l yDe_hasWrongEntry (rmn 4 88) TX mvX false (some .boolean) [.inr 16, .inl x1] M (0, v0, M9) := ct_of hl (by decide) iDe_hasWrongEntry.1 (Nat.le_of_ble_eq_true rfl) (fun X => wDe_hasWrongEntry X hf)
def fX_isWrong (x1 : Int) (M : Mm) : Option (Int × Mm) :=
  mcn (fDe_isBad x1 M) fun v2 M1 =>
  meq v2 0
    (mcn (fDe_layoutOf x1 M1) fun v4 M3 =>
    meq v4 2
      (mcn (fX_hasBadCluster x1 M3) fun v10 M9 =>
      mz v10 (some (v10, M9)))
      (mcn (fDe_kindOf x1 M3) fun v6 M5 =>
      meq v6 0
        (mcn (fDe_hasWrongEntry x1 M5) fun v8 M7 =>
        meq v8 0
          (some (0, M7))
          (some (1, M7)))
        (some (0, M5))))
    (some (1, M1))
set_option maxRecDepth 10000 in
theorem wX_isWrong {v0 : Int} {M9 : Mm} (X : Cy p l e (rmn 5 121) s m args below meth c D aK TX mvX false a0 "PackedImage" cX_isWrong 2 (some .boolean) (0, v0, M9)) {x1 : Int} {M : Mm} (hf : fX_isWrong x1 M = some (v0, M9)) : Wm X 0 [some (.inr 0), some (.inl x1)] [] M := by
  unfold fX_isWrong at hf
  refine x_aloadn dX_isWrong_0 rfl ?_
  refine x_getR gX_26 tX_0 rfl dX_isWrong_1 ?_
  refine x_iloadn dX_isWrong_4 rfl ?_
  refine x_cvni hf (kDe_isBad X.hst) iDe_isBad lX_153 tX_16 rfl rfl (by decide) (Nat.le_of_ble_eq_true rfl) dX_isWrong_5 (fun v2 M1 hf => ?_)
  refine x_eq0 hf dX_isWrong_8 rfl (fun hf => ?_) (fun hf => ?_)
  · refine x_aloadn dX_isWrong_13 rfl ?_
    refine x_getR gX_26 tX_0 rfl dX_isWrong_14 ?_
    refine x_iloadn dX_isWrong_17 rfl ?_
    refine x_cvni hf (kDe_layoutOf X.hst) iDe_layoutOf lX_141 tX_16 rfl rfl (by decide) (Nat.le_of_ble_eq_true rfl) dX_isWrong_18 (fun v4 M3 hf => ?_)
    refine x_iconst dX_isWrong_21 ?_
    refine x_ne hf dX_isWrong_22 rfl (fun hf => ?_) (fun hf => ?_)
    · refine x_aloadn dX_isWrong_31 rfl ?_
      refine x_getR gX_26 tX_0 rfl dX_isWrong_32 ?_
      refine x_iloadn dX_isWrong_35 rfl ?_
      refine x_cvni hf (kDe_kindOf X.hst) iDe_kindOf lX_138 tX_16 rfl rfl (by decide) (Nat.le_of_ble_eq_true rfl) dX_isWrong_36 (fun v6 M5 hf => ?_)
      refine x_ne0 hf dX_isWrong_39 rfl (fun hf => ?_) (fun hf => ?_)
      · refine x_iconst dX_isWrong_57 ?_
        exact x_zret (rt_n hf) (by decide) rfl dX_isWrong_58
      · refine x_aloadn dX_isWrong_42 rfl ?_
        refine x_getR gX_26 tX_0 rfl dX_isWrong_43 ?_
        refine x_iloadn dX_isWrong_46 rfl ?_
        refine x_cvni hf (kDe_hasWrongEntry X.hst) iDe_hasWrongEntry lX_230 tX_16 rfl rfl (by decide) (Nat.le_of_ble_eq_true rfl) dX_isWrong_47 (fun v8 M7 hf => ?_)
        refine x_eq0 hf dX_isWrong_50 rfl (fun hf => ?_) (fun hf => ?_)
        · refine x_iconst dX_isWrong_57 ?_
          exact x_zret (rt_n hf) (by decide) rfl dX_isWrong_58
        · refine x_iconst dX_isWrong_53 ?_
          refine x_goto (tgt := 58) dX_isWrong_54 rfl ?_
          exact x_zret (rt_n hf) (by decide) rfl dX_isWrong_58
    · refine x_aloadn dX_isWrong_25 rfl ?_
      refine x_iloadn dX_isWrong_26 rfl ?_
      refine x_cvni hf (kX_hasBadCluster X.hst) iX_hasBadCluster lX_227 tX_0 rfl rfl (by decide) (Nat.le_of_ble_eq_true rfl) dX_isWrong_27 (fun v10 M9 hf => ?_)
      obtain ⟨hz, hf⟩ := mif_of hf
      exact x_zret (rt_n hf) hz rfl dX_isWrong_30
  · refine x_iconst dX_isWrong_11 ?_
    exact x_zret (rt_n hf) (by decide) rfl dX_isWrong_12
theorem kX_isWrong {l : Launch} (hl : l.stackTraces = false) {x1 : Int} {M : Mm} (v0 : Int) (M9 : Mm) (hf : fX_isWrong x1 M = some (v0, M9)) : Ct l yX_isWrong (rmn 5 121) TX mvX false (some .boolean) [.inr 0, .inl x1] M (0, v0, M9) := ct_of hl (by decide) iX_isWrong.1 (Nat.le_of_ble_eq_true rfl) (fun X => wX_isWrong X hf)
def fX_check_6 : Nat → Int → Mm → Option (Nat × Int × Mm)
  | 0, _, _ => none
  | n+1, y1, M =>
    mlt y1 126
      (mcn (fDe_isInode y1 M) fun v3 M2 =>
      meq v3 0
        ((fX_check_6 n) (y1 + 1) M2)
        (mcn (fX_isWrong y1 M2) fun v5 M4 =>
        meq v5 0
          ((fX_check_6 n) (y1 + 1) M4)
          (some (0, y1, M4))))
      (some (0, (-1), M))
def fX_check (M : Mm) : Option (Nat × Int × Mm) :=
  mcx (fX_demandMounted M) fun _ M1 =>
  fX_check_6 FU 0 M1
set_option maxRecDepth 10000 in
theorem wX_check_6 {r : Nat × Int × Mm} (X : Cy p l e (rmn 7 142) s m args below meth c D aK TX mvX false a0 "PackedImage" cX_check 2 (some .int) r) : ∀ (n : Nat) (y1 : Int) (M : Mm), fX_check_6 n y1 M = some r → Wm X 6 [some (.inr 0), some (.inl y1)] [] M := by
  intro n
  induction n with
  | zero => intro y1 M hf; exact nomatch (show (none : Option (Nat × Int × Mm)) = _ from hf)
  | succ n ih =>
    intro y1 M hf
    rw [fX_check_6] at hf
    refine x_iloadn dX_check_6 rfl ?_
    refine x_bipush dX_check_7 (by decide) ?_
    refine x_ge hf dX_check_9 rfl (fun hf => ?_) (fun hf => ?_)
    · refine x_iconst dX_check_39 ?_
      exact x_iret (rt_x hf) rfl dX_check_40
    · refine x_aloadn dX_check_12 rfl ?_
      refine x_getR gX_26 tX_0 rfl dX_check_13 ?_
      refine x_iloadn dX_check_16 rfl ?_
      refine x_cvni hf (kDe_isInode X.hst) iDe_isInode lX_194 tX_16 rfl rfl (by decide) (Nat.le_of_ble_eq_true rfl) dX_check_17 (fun v3 M2 hf => ?_)
      refine x_eq0 hf dX_check_20 rfl (fun hf => ?_) (fun hf => ?_)
      · refine x_iinc dX_check_33 rfl (by decide) ?_
        refine x_goto (tgt := 6) dX_check_36 rfl ?_
        exact x_mask [true, true] (ih _ _ hf)
      · refine x_aloadn dX_check_23 rfl ?_
        refine x_iloadn dX_check_24 rfl ?_
        refine x_cvni hf (kX_isWrong X.hst) iX_isWrong lX_197 tX_0 rfl rfl (by decide) (Nat.le_of_ble_eq_true rfl) dX_check_25 (fun v5 M4 hf => ?_)
        refine x_eq0 hf dX_check_28 rfl (fun hf => ?_) (fun hf => ?_)
        · refine x_iinc dX_check_33 rfl (by decide) ?_
          refine x_goto (tgt := 6) dX_check_36 rfl ?_
          exact x_mask [true, true] (ih _ _ hf)
        · refine x_iloadn dX_check_31 rfl ?_
          exact x_iret (rt_x hf) rfl dX_check_32
set_option maxRecDepth 10000 in
theorem wX_check {r : Nat × Int × Mm} (X : Cy p l e (rmn 7 142) s m args below meth c D aK TX mvX false a0 "PackedImage" cX_check 2 (some .int) r) {M : Mm} (hf : fX_check M = some r) : Wm X 0 [some (.inr 0), none] [] M := by
  unfold fX_check at hf
  refine x_aloadn dX_check_0 rfl ?_
  refine x_cvxv hf (kX_demandMounted X.hst) iX_demandMounted lX_171 tX_0 rfl rfl (by decide) (Nat.le_of_ble_eq_true rfl) dX_check_1 (fun _ M1 hf => ?_)
  refine x_iconst dX_check_4 ?_
  refine x_istoren dX_check_5 (by decide) ?_
  exact x_mask [true, true] (wX_check_6 X FU _ _ hf)
theorem kX_check {l : Launch} (hl : l.stackTraces = false) {M : Mm} (w : Nat × Int × Mm) (hf : fX_check M = some w) : Ct l yX_check (rmn 7 142) TX mvX false (some .int) [.inr 0] M w := ct_of hl (by decide) iX_check.1 (Nat.le_of_ble_eq_true rfl) (fun X => wX_check X hf)
def fR_thrown (M : Mm) : Option (Int × Mm) :=
  some ((M 0 0), M)
set_option maxRecDepth 10000 in
theorem wR_thrown {v0 : Int} {M9 : Mm} (X : Cy p l e (rmn 0 0) s m args below meth c D aK TR mvR false a0 "PackedImageModel" cR_thrown 1 (some .int) (0, v0, M9)) {M : Mm} (hf : fR_thrown M = some (v0, M9)) : Wm X 0 [some (.inr 0)] [] M := by
  unfold fR_thrown at hf
  refine x_aloadn dR_thrown_0 rfl ?_
  refine x_getI gR_69 tR_0 rfl dR_thrown_1 ?_
  exact x_iret (rt_n hf) rfl dR_thrown_4
theorem kR_thrown {l : Launch} (hl : l.stackTraces = false) {M : Mm} (v0 : Int) (M9 : Mm) (hf : fR_thrown M = some (v0, M9)) : Ct l yR_thrown (rmn 0 0) TR mvR false (some .int) [.inr 0] M (0, v0, M9) := ct_of hl (by decide) iR_thrown.1 (Nat.le_of_ble_eq_true rfl) (fun X => wR_thrown X hf)
def fR_fail (x1 : Int) (M : Mm) : Option (Int × Mm) :=
  mput M 0 0 x1 fun M1 =>
  some (0, M1)
set_option maxRecDepth 10000 in
theorem wR_fail {v0 : Int} {M9 : Mm} (X : Cy p l e (rmn 0 0) s m args below meth c D aK TR mvR false a0 "PackedImageModel" cR_fail 2 (some .int) (0, v0, M9)) {x1 : Int} {M : Mm} (hf : fR_fail x1 M = some (v0, M9)) : Wm X 0 [some (.inr 0), some (.inl x1)] [] M := by
  unfold fR_fail at hf
  refine x_aloadn dR_fail_0 rfl ?_
  refine x_iloadn dR_fail_1 rfl ?_
  refine x_put hf gR_69 pR_0 tR_0 rfl dR_fail_2 (fun M1 hf => ?_)
  refine x_iconst dR_fail_5 ?_
  exact x_iret (rt_n hf) rfl dR_fail_6
theorem kR_fail {l : Launch} (hl : l.stackTraces = false) {x1 : Int} {M : Mm} (v0 : Int) (M9 : Mm) (hf : fR_fail x1 M = some (v0, M9)) : Ct l yR_fail (rmn 0 0) TR mvR false (some .int) [.inr 0, .inl x1] M (0, v0, M9) := ct_of hl (by decide) iR_fail.1 (Nat.le_of_ble_eq_true rfl) (fun X => wR_fail X hf)
def fR_isNode (x1 : Int) (x2 : Int) (M : Mm) : Option (Int × Mm) :=
  mlt x1 0
    (some (0, M))
    (mlt x1 (M 0 1)
      (mrd M 1 16 x1 fun v1 =>
      meq v1 x2
        (some (1, M))
        (some (0, M)))
      (some (0, M)))
set_option maxRecDepth 10000 in
theorem wR_isNode {v0 : Int} {M9 : Mm} (X : Cy p l e (rmn 0 0) s m args below meth c D aK TR mvR false a0 "PackedImageModel" cR_isNode 3 (some .boolean) (0, v0, M9)) {x1 : Int} {x2 : Int} {M : Mm} (hf : fR_isNode x1 x2 M = some (v0, M9)) : Wm X 0 [some (.inr 0), some (.inl x1), some (.inl x2)] [] M := by
  unfold fR_isNode at hf
  refine x_iloadn dR_isNode_0 rfl ?_
  refine x_lt0 hf dR_isNode_1 rfl (fun hf => ?_) (fun hf => ?_)
  · refine x_iconst dR_isNode_26 ?_
    exact x_zret (rt_n hf) (by decide) rfl dR_isNode_27
  · refine x_iloadn dR_isNode_4 rfl ?_
    refine x_aloadn dR_isNode_5 rfl ?_
    refine x_getI gR_7 tR_0 rfl dR_isNode_6 ?_
    refine x_ge hf dR_isNode_9 rfl (fun hf => ?_) (fun hf => ?_)
    · refine x_iconst dR_isNode_26 ?_
      exact x_zret (rt_n hf) (by decide) rfl dR_isNode_27
    · refine x_aloadn dR_isNode_12 rfl ?_
      refine x_getR gR_13 tR_0 rfl dR_isNode_13 ?_
      refine x_iloadn dR_isNode_16 rfl ?_
      refine x_iald hf tR_1 (by decide) dR_isNode_17 (fun v1 hf => ?_)
      refine x_iloadn dR_isNode_18 rfl ?_
      refine x_ne hf dR_isNode_19 rfl (fun hf => ?_) (fun hf => ?_)
      · refine x_iconst dR_isNode_26 ?_
        exact x_zret (rt_n hf) (by decide) rfl dR_isNode_27
      · refine x_iconst dR_isNode_22 ?_
        refine x_goto (tgt := 27) dR_isNode_23 rfl ?_
        exact x_zret (rt_n hf) (by decide) rfl dR_isNode_27
theorem kR_isNode {l : Launch} (hl : l.stackTraces = false) {x1 : Int} {x2 : Int} {M : Mm} (v0 : Int) (M9 : Mm) (hf : fR_isNode x1 x2 M = some (v0, M9)) : Ct l yR_isNode (rmn 0 0) TR mvR false (some .boolean) [.inr 0, .inl x1, .inl x2] M (0, v0, M9) := ct_of hl (by decide) iR_isNode.1 (Nat.le_of_ble_eq_true rfl) (fun X => wR_isNode X hf)
def fR_isLetter (x0 : Int) (M : Mm) : Option (Int × Mm) :=
  mlt x0 97
    (some (0, M))
    (mlt 122 x0
      (some (0, M))
      (some (1, M)))
set_option maxRecDepth 10000 in
theorem wR_isLetter {v0 : Int} {M9 : Mm} (X : Cy p l e (rmn 0 0) s m args below meth c D aK TR mvR false a0 "PackedImageModel" cR_isLetter 1 (some .boolean) (0, v0, M9)) {x0 : Int} {M : Mm} (hf : fR_isLetter x0 M = some (v0, M9)) : Wm X 0 [some (.inl x0)] [] M := by
  unfold fR_isLetter at hf
  refine x_iloadn dR_isLetter_0 rfl ?_
  refine x_bipush dR_isLetter_1 (by decide) ?_
  refine x_lt hf dR_isLetter_3 rfl (fun hf => ?_) (fun hf => ?_)
  · refine x_iconst dR_isLetter_16 ?_
    exact x_zret (rt_n hf) (by decide) rfl dR_isLetter_17
  · refine x_iloadn dR_isLetter_6 rfl ?_
    refine x_bipush dR_isLetter_7 (by decide) ?_
    refine x_gt hf dR_isLetter_9 rfl (fun hf => ?_) (fun hf => ?_)
    · refine x_iconst dR_isLetter_16 ?_
      exact x_zret (rt_n hf) (by decide) rfl dR_isLetter_17
    · refine x_iconst dR_isLetter_12 ?_
      refine x_goto (tgt := 17) dR_isLetter_13 rfl ?_
      exact x_zret (rt_n hf) (by decide) rfl dR_isLetter_17
theorem kR_isLetter {l : Launch} (hl : l.stackTraces = false) {x0 : Int} {M : Mm} (v0 : Int) (M9 : Mm) (hf : fR_isLetter x0 M = some (v0, M9)) : Ct l yR_isLetter (rmn 0 0) TR mvR false (some .boolean) [.inl x0] M (0, v0, M9) := ct_of hl (by decide) iR_isLetter.1 (Nat.le_of_ble_eq_true rfl) (fun X => wR_isLetter X hf)
def fR_isFree (x1 : Int) (x2 : Int) (M : Mm) : Option (Int × Mm) :=
  mcn (fR_isNode x1 0 M) fun v2 M1 =>
  meq v2 0
    (some (0, M1))
    (mcn (fR_isLetter x2 M1) fun v4 M3 =>
    meq v4 0
      (some (0, M3))
      (mrd M3 2 416 (((26 * x1) + x2) - 97) fun v5 =>
      meq v5 (-1)
        (some (1, M3))
        (some (0, M3))))
set_option maxRecDepth 10000 in
theorem wR_isFree {v0 : Int} {M9 : Mm} (X : Cy p l e (rmn 1 22) s m args below meth c D aK TR mvR false a0 "PackedImageModel" cR_isFree 3 (some .boolean) (0, v0, M9)) {x1 : Int} {x2 : Int} {M : Mm} (hf : fR_isFree x1 x2 M = some (v0, M9)) : Wm X 0 [some (.inr 0), some (.inl x1), some (.inl x2)] [] M := by
  unfold fR_isFree at hf
  refine x_aloadn dR_isFree_0 rfl ?_
  refine x_iloadn dR_isFree_1 rfl ?_
  refine x_iconst dR_isFree_2 ?_
  refine x_cvni hf (kR_isNode X.hst) iR_isNode lR_72 tR_0 rfl rfl (by decide) (Nat.le_of_ble_eq_true rfl) dR_isFree_3 (fun v2 M1 hf => ?_)
  refine x_eq0 hf dR_isFree_6 rfl (fun hf => ?_) (fun hf => ?_)
  · refine x_iconst dR_isFree_38 ?_
    exact x_zret (rt_n hf) (by decide) rfl dR_isFree_39
  · refine x_iloadn dR_isFree_9 rfl ?_
    refine x_csni hf (kR_isLetter X.hst) iR_isLetter lR_76 rfl (by decide) (Nat.le_of_ble_eq_true rfl) dR_isFree_10 (fun v4 M3 hf => ?_)
    refine x_eq0 hf dR_isFree_13 rfl (fun hf => ?_) (fun hf => ?_)
    · refine x_iconst dR_isFree_38 ?_
      exact x_zret (rt_n hf) (by decide) rfl dR_isFree_39
    · refine x_aloadn dR_isFree_16 rfl ?_
      refine x_getR gR_17 tR_0 rfl dR_isFree_17 ?_
      refine x_bipush dR_isFree_20 (by decide) ?_
      refine x_iloadn dR_isFree_22 rfl ?_
      refine x_imul dR_isFree_23 ?_
      refine x_iloadn dR_isFree_24 rfl ?_
      refine x_iadd dR_isFree_25 ?_
      refine x_bipush dR_isFree_26 (by decide) ?_
      refine x_isub dR_isFree_28 ?_
      refine x_iald hf tR_2 (by decide) dR_isFree_29 (fun v5 hf => ?_)
      refine x_iconst dR_isFree_30 ?_
      refine x_ne hf dR_isFree_31 rfl (fun hf => ?_) (fun hf => ?_)
      · refine x_iconst dR_isFree_38 ?_
        exact x_zret (rt_n hf) (by decide) rfl dR_isFree_39
      · refine x_iconst dR_isFree_34 ?_
        refine x_goto (tgt := 39) dR_isFree_35 rfl ?_
        exact x_zret (rt_n hf) (by decide) rfl dR_isFree_39
theorem kR_isFree {l : Launch} (hl : l.stackTraces = false) {x1 : Int} {x2 : Int} {M : Mm} (v0 : Int) (M9 : Mm) (hf : fR_isFree x1 x2 M = some (v0, M9)) : Ct l yR_isFree (rmn 1 22) TR mvR false (some .boolean) [.inr 0, .inl x1, .inl x2] M (0, v0, M9) := ct_of hl (by decide) iR_isFree.1 (Nat.le_of_ble_eq_true rfl) (fun X => wR_isFree X hf)
def fR_create_37 (y1 y2 y3 z1 : Int) (M : Mm) : Option (Int × Mm) :=
  mput M 0 0 z1 fun M1 =>
  mlt 0 (M1 0 0)
    (some (0, M1))
    (mwr M1 1 16 (M1 0 1) y1 fun M2 =>
    mwr M2 5 16 (M2 0 1) 1 fun M3 =>
    mwr M3 2 416 (((26 * y2) + y3) - 97) (M3 0 1) fun M4 =>
    mput M4 0 1 ((M4 0 1) + 1) fun M5 =>
    some (((M5 0 1) - 1), M5))
def fR_create_19 (y1 y2 y3 : Int) (M : Mm) : Option (Int × Mm) :=
  fR_create_37 y1 y2 y3 1 M
def fR_create (x1 : Int) (x2 : Int) (x3 : Int) (M : Mm) : Option (Int × Mm) :=
  mlt x1 0
    (fR_create_19 x1 x2 x3 M)
    (mlt 2 x1
      (fR_create_19 x1 x2 x3 M)
      (mcn (fR_isFree x2 x3 M) fun v7 M6 =>
      meq v7 0
        (fR_create_19 x1 x2 x3 M6)
        (meq (M6 0 1) 16
          (fR_create_37 x1 x2 x3 2 M6)
          (fR_create_37 x1 x2 x3 0 M6))))
set_option maxRecDepth 10000 in
theorem wR_create_37 {v0 : Int} {M9 : Mm} (X : Cy p l e (rmn 2 44) s m args below meth c D aK TR mvR false a0 "PackedImageModel" cR_create 4 (some .int) (0, v0, M9)) : ∀ (y1 : Int) (y2 : Int) (y3 : Int) (z1 : Int) (M : Mm), fR_create_37 y1 y2 y3 z1 M = some (v0, M9) → Wm X 37 [some (.inr 0), some (.inl y1), some (.inl y2), some (.inl y3)] [.inl z1, .inr 0] M := by
  intro y1 y2 y3 z1 M hf
  unfold fR_create_37 at hf
  refine x_put hf gR_69 pR_0 tR_0 rfl dR_create_37 (fun M1 hf => ?_)
  refine x_aloadn dR_create_40 rfl ?_
  refine x_getI gR_69 tR_0 rfl dR_create_41 ?_
  refine x_le0 hf dR_create_44 rfl (fun hf => ?_) (fun hf => ?_)
  · refine x_aloadn dR_create_49 rfl ?_
    refine x_getR gR_13 tR_0 rfl dR_create_50 ?_
    refine x_aloadn dR_create_53 rfl ?_
    refine x_getI gR_7 tR_0 rfl dR_create_54 ?_
    refine x_iloadn dR_create_57 rfl ?_
    refine x_iast hf tR_1 (by decide) dR_create_58 (fun M2 hf => ?_)
    refine x_aloadn dR_create_59 rfl ?_
    refine x_getR gR_26 tR_0 rfl dR_create_60 ?_
    refine x_aloadn dR_create_63 rfl ?_
    refine x_getI gR_7 tR_0 rfl dR_create_64 ?_
    refine x_iconst dR_create_67 ?_
    refine x_iast hf tR_5 (by decide) dR_create_68 (fun M3 hf => ?_)
    refine x_aloadn dR_create_69 rfl ?_
    refine x_getR gR_17 tR_0 rfl dR_create_70 ?_
    refine x_bipush dR_create_73 (by decide) ?_
    refine x_iloadn dR_create_75 rfl ?_
    refine x_imul dR_create_76 ?_
    refine x_iloadn dR_create_77 rfl ?_
    refine x_iadd dR_create_78 ?_
    refine x_bipush dR_create_79 (by decide) ?_
    refine x_isub dR_create_81 ?_
    refine x_aloadn dR_create_82 rfl ?_
    refine x_getI gR_7 tR_0 rfl dR_create_83 ?_
    refine x_iast hf tR_2 (by decide) dR_create_86 (fun M4 hf => ?_)
    refine x_aloadn dR_create_87 rfl ?_
    refine x_dup dR_create_88 ?_
    refine x_getI gR_7 tR_0 rfl dR_create_89 ?_
    refine x_iconst dR_create_92 ?_
    refine x_iadd dR_create_93 ?_
    refine x_put hf gR_7 pR_1 tR_0 rfl dR_create_94 (fun M5 hf => ?_)
    refine x_aloadn dR_create_97 rfl ?_
    refine x_getI gR_7 tR_0 rfl dR_create_98 ?_
    refine x_iconst dR_create_101 ?_
    refine x_isub dR_create_102 ?_
    exact x_iret (rt_n hf) rfl dR_create_103
  · refine x_iconst dR_create_47 ?_
    exact x_iret (rt_n hf) rfl dR_create_48
set_option maxRecDepth 10000 in
theorem wR_create_19 {v0 : Int} {M9 : Mm} (X : Cy p l e (rmn 2 44) s m args below meth c D aK TR mvR false a0 "PackedImageModel" cR_create 4 (some .int) (0, v0, M9)) : ∀ (y1 : Int) (y2 : Int) (y3 : Int) (M : Mm), fR_create_19 y1 y2 y3 M = some (v0, M9) → Wm X 19 [some (.inr 0), some (.inl y1), some (.inl y2), some (.inl y3)] [.inr 0] M := by
  intro y1 y2 y3 M hf
  unfold fR_create_19 at hf
  refine x_iconst dR_create_19 ?_
  refine x_goto (tgt := 37) dR_create_20 rfl ?_
  exact x_mask [true, true, true, true] (wR_create_37 X _ _ _ _ _ hf)
set_option maxRecDepth 10000 in
theorem wR_create {v0 : Int} {M9 : Mm} (X : Cy p l e (rmn 2 44) s m args below meth c D aK TR mvR false a0 "PackedImageModel" cR_create 4 (some .int) (0, v0, M9)) {x1 : Int} {x2 : Int} {x3 : Int} {M : Mm} (hf : fR_create x1 x2 x3 M = some (v0, M9)) : Wm X 0 [some (.inr 0), some (.inl x1), some (.inl x2), some (.inl x3)] [] M := by
  unfold fR_create at hf
  refine x_aloadn dR_create_0 rfl ?_
  refine x_iloadn dR_create_1 rfl ?_
  refine x_lt0 hf dR_create_2 rfl (fun hf => ?_) (fun hf => ?_)
  · exact x_mask [true, true, true, true] (wR_create_19 X _ _ _ _ hf)
  · refine x_iloadn dR_create_5 rfl ?_
    refine x_iconst dR_create_6 ?_
    refine x_gt hf dR_create_7 rfl (fun hf => ?_) (fun hf => ?_)
    · exact x_mask [true, true, true, true] (wR_create_19 X _ _ _ _ hf)
    · refine x_aloadn dR_create_10 rfl ?_
      refine x_iloadn dR_create_11 rfl ?_
      refine x_iloadn dR_create_12 rfl ?_
      refine x_cvni hf (kR_isFree X.hst) iR_isFree lR_80 tR_0 rfl rfl (by decide) (Nat.le_of_ble_eq_true rfl) dR_create_13 (fun v7 M6 hf => ?_)
      refine x_ne0 hf dR_create_16 rfl (fun hf => ?_) (fun hf => ?_)
      · refine x_aloadn dR_create_23 rfl ?_
        refine x_getI gR_7 tR_0 rfl dR_create_24 ?_
        refine x_bipush dR_create_27 (by decide) ?_
        refine x_ne hf dR_create_29 rfl (fun hf => ?_) (fun hf => ?_)
        · refine x_iconst dR_create_36 ?_
          exact x_mask [true, true, true, true] (wR_create_37 X _ _ _ _ _ hf)
        · refine x_iconst dR_create_32 ?_
          refine x_goto (tgt := 37) dR_create_33 rfl ?_
          exact x_mask [true, true, true, true] (wR_create_37 X _ _ _ _ _ hf)
      · exact x_mask [true, true, true, true] (wR_create_19 X _ _ _ _ hf)
theorem kR_create {l : Launch} (hl : l.stackTraces = false) {x1 : Int} {x2 : Int} {x3 : Int} {M : Mm} (v0 : Int) (M9 : Mm) (hf : fR_create x1 x2 x3 M = some (v0, M9)) : Ct l yR_create (rmn 2 44) TR mvR false (some .int) [.inr 0, .inl x1, .inl x2, .inl x3] M (0, v0, M9) := ct_of hl (by decide) iR_create.1 (Nat.le_of_ble_eq_true rfl) (fun X => wR_create X hf)
def fR_link_24 (y1 y2 y3 z1 : Int) (M : Mm) : Option (Int × Mm) :=
  mput M 0 0 z1 fun M3 =>
  mlt 0 (M3 0 0)
    (some (0, M3))
    (mwr M3 2 416 (((26 * y2) + y3) - 97) y1 fun M4 =>
    mrd M4 5 16 y1 fun v5 =>
    mwr M4 5 16 y1 (v5 + 1) fun M6 =>
    some (0, M6))
def fR_link_23 (y1 y2 y3 : Int) (M : Mm) : Option (Int × Mm) :=
  fR_link_24 y1 y2 y3 1 M
def fR_link (x1 : Int) (x2 : Int) (x3 : Int) (M : Mm) : Option (Int × Mm) :=
  mcn (fR_isNode x1 1 M) fun v2 M1 =>
  meq v2 0
    (fR_link_23 x1 x2 x3 M1)
    (mcn (fR_isFree x2 x3 M1) fun v8 M7 =>
    meq v8 0
      (fR_link_23 x1 x2 x3 M7)
      (fR_link_24 x1 x2 x3 0 M7))
set_option maxRecDepth 10000 in
theorem wR_link_24 {v0 : Int} {M9 : Mm} (X : Cy p l e (rmn 2 44) s m args below meth c D aK TR mvR false a0 "PackedImageModel" cR_link 4 none (0, v0, M9)) : ∀ (y1 : Int) (y2 : Int) (y3 : Int) (z1 : Int) (M : Mm), fR_link_24 y1 y2 y3 z1 M = some (v0, M9) → Wm X 24 [some (.inr 0), some (.inl y1), some (.inl y2), some (.inl y3)] [.inl z1, .inr 0] M := by
  intro y1 y2 y3 z1 M hf
  unfold fR_link_24 at hf
  refine x_put hf gR_69 pR_0 tR_0 rfl dR_link_24 (fun M3 hf => ?_)
  refine x_aloadn dR_link_27 rfl ?_
  refine x_getI gR_69 tR_0 rfl dR_link_28 ?_
  refine x_le0 hf dR_link_31 rfl (fun hf => ?_) (fun hf => ?_)
  · refine x_aloadn dR_link_35 rfl ?_
    refine x_getR gR_17 tR_0 rfl dR_link_36 ?_
    refine x_bipush dR_link_39 (by decide) ?_
    refine x_iloadn dR_link_41 rfl ?_
    refine x_imul dR_link_42 ?_
    refine x_iloadn dR_link_43 rfl ?_
    refine x_iadd dR_link_44 ?_
    refine x_bipush dR_link_45 (by decide) ?_
    refine x_isub dR_link_47 ?_
    refine x_iloadn dR_link_48 rfl ?_
    refine x_iast hf tR_2 (by decide) dR_link_49 (fun M4 hf => ?_)
    refine x_aloadn dR_link_50 rfl ?_
    refine x_getR gR_26 tR_0 rfl dR_link_51 ?_
    refine x_iloadn dR_link_54 rfl ?_
    refine x_dup2 dR_link_55 ?_
    refine x_iald hf tR_5 (by decide) dR_link_56 (fun v5 hf => ?_)
    refine x_iconst dR_link_57 ?_
    refine x_iadd dR_link_58 ?_
    refine x_iast hf tR_5 (by decide) dR_link_59 (fun M6 hf => ?_)
    exact x_vret ⟨_, rt_n hf⟩ rfl dR_link_60
  · exact x_vret ⟨_, rt_n hf⟩ rfl dR_link_34
set_option maxRecDepth 10000 in
theorem wR_link_23 {v0 : Int} {M9 : Mm} (X : Cy p l e (rmn 2 44) s m args below meth c D aK TR mvR false a0 "PackedImageModel" cR_link 4 none (0, v0, M9)) : ∀ (y1 : Int) (y2 : Int) (y3 : Int) (M : Mm), fR_link_23 y1 y2 y3 M = some (v0, M9) → Wm X 23 [some (.inr 0), some (.inl y1), some (.inl y2), some (.inl y3)] [.inr 0] M := by
  intro y1 y2 y3 M hf
  unfold fR_link_23 at hf
  refine x_iconst dR_link_23 ?_
  exact x_mask [true, true, true, true] (wR_link_24 X _ _ _ _ _ hf)
set_option maxRecDepth 10000 in
theorem wR_link {v0 : Int} {M9 : Mm} (X : Cy p l e (rmn 2 44) s m args below meth c D aK TR mvR false a0 "PackedImageModel" cR_link 4 none (0, v0, M9)) {x1 : Int} {x2 : Int} {x3 : Int} {M : Mm} (hf : fR_link x1 x2 x3 M = some (v0, M9)) : Wm X 0 [some (.inr 0), some (.inl x1), some (.inl x2), some (.inl x3)] [] M := by
  unfold fR_link at hf
  refine x_aloadn dR_link_0 rfl ?_
  refine x_aloadn dR_link_1 rfl ?_
  refine x_iloadn dR_link_2 rfl ?_
  refine x_iconst dR_link_3 ?_
  refine x_cvni hf (kR_isNode X.hst) iR_isNode lR_72 tR_0 rfl rfl (by decide) (Nat.le_of_ble_eq_true rfl) dR_link_4 (fun v2 M1 hf => ?_)
  refine x_eq0 hf dR_link_7 rfl (fun hf => ?_) (fun hf => ?_)
  · exact x_mask [true, true, true, true] (wR_link_23 X _ _ _ _ hf)
  · refine x_aloadn dR_link_10 rfl ?_
    refine x_iloadn dR_link_11 rfl ?_
    refine x_iloadn dR_link_12 rfl ?_
    refine x_cvni hf (kR_isFree X.hst) iR_isFree lR_80 tR_0 rfl rfl (by decide) (Nat.le_of_ble_eq_true rfl) dR_link_13 (fun v8 M7 hf => ?_)
    refine x_eq0 hf dR_link_16 rfl (fun hf => ?_) (fun hf => ?_)
    · exact x_mask [true, true, true, true] (wR_link_23 X _ _ _ _ hf)
    · refine x_iconst dR_link_19 ?_
      refine x_goto (tgt := 24) dR_link_20 rfl ?_
      exact x_mask [true, true, true, true] (wR_link_24 X _ _ _ _ _ hf)
theorem kR_link {l : Launch} (hl : l.stackTraces = false) {x1 : Int} {x2 : Int} {x3 : Int} {M : Mm} (v0 : Int) (M9 : Mm) (hf : fR_link x1 x2 x3 M = some (v0, M9)) : Ct l yR_link (rmn 2 44) TR mvR false none [.inr 0, .inl x1, .inl x2, .inl x3] M (0, v0, M9) := ct_of hl (by decide) iR_link.1 (Nat.le_of_ble_eq_true rfl) (fun X => wR_link X hf)
def fR_unlink_56 (y1 y2 y3 z1 : Int) (M : Mm) : Option (Int × Mm) :=
  mput M 0 0 z1 fun M3 =>
  mlt 0 (M3 0 0)
    (some (0, M3))
    (mwr M3 2 416 (((26 * y1) + y2) - 97) (-1) fun M4 =>
    mrd M4 5 16 y3 fun v5 =>
    mwr M4 5 16 y3 (v5 - 1) fun M6 =>
    some (0, M6))
def fR_unlink_55 (y1 y2 y3 : Int) (M : Mm) : Option (Int × Mm) :=
  fR_unlink_56 y1 y2 y3 1 M
def fR_unlink_34 (y1 y2 z0 : Int) (M : Mm) : Option (Int × Mm) :=
  meq z0 (-1)
    (fR_unlink_55 y1 y2 z0 M)
    (mrd M 1 16 z0 fun v7 =>
    meq v7 1
      (fR_unlink_56 y1 y2 z0 0 M)
      (fR_unlink_55 y1 y2 z0 M))
def fR_unlink_33 (y1 y2 : Int) (M : Mm) : Option (Int × Mm) :=
  fR_unlink_34 y1 y2 (-1) M
def fR_unlink (x1 : Int) (x2 : Int) (M : Mm) : Option (Int × Mm) :=
  mcn (fR_isNode x1 0 M) fun v2 M1 =>
  meq v2 0
    (fR_unlink_33 x1 x2 M1)
    (mcn (fR_isLetter x2 M1) fun v9 M8 =>
    meq v9 0
      (fR_unlink_33 x1 x2 M8)
      (mrd M8 2 416 (((26 * x1) + x2) - 97) fun v10 =>
      fR_unlink_34 x1 x2 v10 M8))
set_option maxRecDepth 10000 in
theorem wR_unlink_56 {v0 : Int} {M9 : Mm} (X : Cy p l e (rmn 1 22) s m args below meth c D aK TR mvR false a0 "PackedImageModel" cR_unlink 4 none (0, v0, M9)) : ∀ (y1 : Int) (y2 : Int) (y3 : Int) (z1 : Int) (M : Mm), fR_unlink_56 y1 y2 y3 z1 M = some (v0, M9) → Wm X 56 [some (.inr 0), some (.inl y1), some (.inl y2), some (.inl y3)] [.inl z1, .inr 0] M := by
  intro y1 y2 y3 z1 M hf
  unfold fR_unlink_56 at hf
  refine x_put hf gR_69 pR_0 tR_0 rfl dR_unlink_56 (fun M3 hf => ?_)
  refine x_aloadn dR_unlink_59 rfl ?_
  refine x_getI gR_69 tR_0 rfl dR_unlink_60 ?_
  refine x_le0 hf dR_unlink_63 rfl (fun hf => ?_) (fun hf => ?_)
  · refine x_aloadn dR_unlink_67 rfl ?_
    refine x_getR gR_17 tR_0 rfl dR_unlink_68 ?_
    refine x_bipush dR_unlink_71 (by decide) ?_
    refine x_iloadn dR_unlink_73 rfl ?_
    refine x_imul dR_unlink_74 ?_
    refine x_iloadn dR_unlink_75 rfl ?_
    refine x_iadd dR_unlink_76 ?_
    refine x_bipush dR_unlink_77 (by decide) ?_
    refine x_isub dR_unlink_79 ?_
    refine x_iconst dR_unlink_80 ?_
    refine x_iast hf tR_2 (by decide) dR_unlink_81 (fun M4 hf => ?_)
    refine x_aloadn dR_unlink_82 rfl ?_
    refine x_getR gR_26 tR_0 rfl dR_unlink_83 ?_
    refine x_iloadn dR_unlink_86 rfl ?_
    refine x_dup2 dR_unlink_87 ?_
    refine x_iald hf tR_5 (by decide) dR_unlink_88 (fun v5 hf => ?_)
    refine x_iconst dR_unlink_89 ?_
    refine x_isub dR_unlink_90 ?_
    refine x_iast hf tR_5 (by decide) dR_unlink_91 (fun M6 hf => ?_)
    exact x_vret ⟨_, rt_n hf⟩ rfl dR_unlink_92
  · exact x_vret ⟨_, rt_n hf⟩ rfl dR_unlink_66
set_option maxRecDepth 10000 in
theorem wR_unlink_55 {v0 : Int} {M9 : Mm} (X : Cy p l e (rmn 1 22) s m args below meth c D aK TR mvR false a0 "PackedImageModel" cR_unlink 4 none (0, v0, M9)) : ∀ (y1 : Int) (y2 : Int) (y3 : Int) (M : Mm), fR_unlink_55 y1 y2 y3 M = some (v0, M9) → Wm X 55 [some (.inr 0), some (.inl y1), some (.inl y2), some (.inl y3)] [.inr 0] M := by
  intro y1 y2 y3 M hf
  unfold fR_unlink_55 at hf
  refine x_iconst dR_unlink_55 ?_
  exact x_mask [true, true, true, true] (wR_unlink_56 X _ _ _ _ _ hf)
set_option maxRecDepth 10000 in
theorem wR_unlink_34 {v0 : Int} {M9 : Mm} (X : Cy p l e (rmn 1 22) s m args below meth c D aK TR mvR false a0 "PackedImageModel" cR_unlink 4 none (0, v0, M9)) : ∀ (y1 : Int) (y2 : Int) (z0 : Int) (M : Mm), fR_unlink_34 y1 y2 z0 M = some (v0, M9) → Wm X 34 [some (.inr 0), some (.inl y1), some (.inl y2), none] [.inl z0] M := by
  intro y1 y2 z0 M hf
  unfold fR_unlink_34 at hf
  refine x_istoren dR_unlink_34 (by decide) ?_
  refine x_aloadn dR_unlink_35 rfl ?_
  refine x_iloadn dR_unlink_36 rfl ?_
  refine x_iconst dR_unlink_37 ?_
  refine x_eq hf dR_unlink_38 rfl (fun hf => ?_) (fun hf => ?_)
  · exact x_mask [true, true, true, true] (wR_unlink_55 X _ _ _ _ hf)
  · refine x_aloadn dR_unlink_41 rfl ?_
    refine x_getR gR_13 tR_0 rfl dR_unlink_42 ?_
    refine x_iloadn dR_unlink_45 rfl ?_
    refine x_iald hf tR_1 (by decide) dR_unlink_46 (fun v7 hf => ?_)
    refine x_iconst dR_unlink_47 ?_
    refine x_ne hf dR_unlink_48 rfl (fun hf => ?_) (fun hf => ?_)
    · exact x_mask [true, true, true, true] (wR_unlink_55 X _ _ _ _ hf)
    · refine x_iconst dR_unlink_51 ?_
      refine x_goto (tgt := 56) dR_unlink_52 rfl ?_
      exact x_mask [true, true, true, true] (wR_unlink_56 X _ _ _ _ _ hf)
set_option maxRecDepth 10000 in
theorem wR_unlink_33 {v0 : Int} {M9 : Mm} (X : Cy p l e (rmn 1 22) s m args below meth c D aK TR mvR false a0 "PackedImageModel" cR_unlink 4 none (0, v0, M9)) : ∀ (y1 : Int) (y2 : Int) (M : Mm), fR_unlink_33 y1 y2 M = some (v0, M9) → Wm X 33 [some (.inr 0), some (.inl y1), some (.inl y2), none] [] M := by
  intro y1 y2 M hf
  unfold fR_unlink_33 at hf
  refine x_iconst dR_unlink_33 ?_
  exact x_mask [true, true, true, false] (wR_unlink_34 X _ _ _ _ hf)
set_option maxRecDepth 10000 in
theorem wR_unlink {v0 : Int} {M9 : Mm} (X : Cy p l e (rmn 1 22) s m args below meth c D aK TR mvR false a0 "PackedImageModel" cR_unlink 4 none (0, v0, M9)) {x1 : Int} {x2 : Int} {M : Mm} (hf : fR_unlink x1 x2 M = some (v0, M9)) : Wm X 0 [some (.inr 0), some (.inl x1), some (.inl x2), none] [] M := by
  unfold fR_unlink at hf
  refine x_aloadn dR_unlink_0 rfl ?_
  refine x_iloadn dR_unlink_1 rfl ?_
  refine x_iconst dR_unlink_2 ?_
  refine x_cvni hf (kR_isNode X.hst) iR_isNode lR_72 tR_0 rfl rfl (by decide) (Nat.le_of_ble_eq_true rfl) dR_unlink_3 (fun v2 M1 hf => ?_)
  refine x_eq0 hf dR_unlink_6 rfl (fun hf => ?_) (fun hf => ?_)
  · exact x_mask [true, true, true, false] (wR_unlink_33 X _ _ _ hf)
  · refine x_iloadn dR_unlink_9 rfl ?_
    refine x_csni hf (kR_isLetter X.hst) iR_isLetter lR_76 rfl (by decide) (Nat.le_of_ble_eq_true rfl) dR_unlink_10 (fun v9 M8 hf => ?_)
    refine x_eq0 hf dR_unlink_13 rfl (fun hf => ?_) (fun hf => ?_)
    · exact x_mask [true, true, true, false] (wR_unlink_33 X _ _ _ hf)
    · refine x_aloadn dR_unlink_16 rfl ?_
      refine x_getR gR_17 tR_0 rfl dR_unlink_17 ?_
      refine x_bipush dR_unlink_20 (by decide) ?_
      refine x_iloadn dR_unlink_22 rfl ?_
      refine x_imul dR_unlink_23 ?_
      refine x_iloadn dR_unlink_24 rfl ?_
      refine x_iadd dR_unlink_25 ?_
      refine x_bipush dR_unlink_26 (by decide) ?_
      refine x_isub dR_unlink_28 ?_
      refine x_iald hf tR_2 (by decide) dR_unlink_29 (fun v10 hf => ?_)
      refine x_goto (tgt := 34) dR_unlink_30 rfl ?_
      exact x_mask [true, true, true, false] (wR_unlink_34 X _ _ _ _ hf)
theorem kR_unlink {l : Launch} (hl : l.stackTraces = false) {x1 : Int} {x2 : Int} {M : Mm} (v0 : Int) (M9 : Mm) (hf : fR_unlink x1 x2 M = some (v0, M9)) : Ct l yR_unlink (rmn 1 22) TR mvR false none [.inr 0, .inl x1, .inl x2] M (0, v0, M9) := ct_of hl (by decide) iR_unlink.1 (Nat.le_of_ble_eq_true rfl) (fun X => wR_unlink X hf)
end WK
