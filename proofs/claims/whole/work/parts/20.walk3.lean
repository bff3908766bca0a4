section WK
variable {p : Program} {l : Launch} {e : Env} {s : State} {m : MethodId} {args : Array Value} {below : List Frame} {meth : Method} {c : Code} {D : va_G} {aK : Nat → ClassId} {a0 : Nat → Nat}
def fDe_markInodes_54 (K9 : Int → Int → Mm → Option (Int × Mm)) (y1 y2 y3 z1 z2 : Int) (M : Mm) : Option (Int × Mm) :=
  mwz M 18 126 z1 z2 fun M4 =>
  mrd M4 18 126 y2 fun v5 =>
  meq v5 0
    (K9 y1 (y2 + 1) M4)
    (mput M4 16 5 ((M4 16 5) + 1) fun M6 =>
    K9 y3 (y2 + 1) M6)
def fDe_markInodes_53 (K9 : Int → Int → Mm → Option (Int × Mm)) (y1 y2 y3 z1 : Int) (M : Mm) : Option (Int × Mm) :=
  fDe_markInodes_54 K9 y1 y2 y3 z1 0 M
def fDe_markInodes_29 (K9 : Int → Int → Mm → Option (Int × Mm)) (y1 y2 z0 z1 : Int) (M : Mm) : Option (Int × Mm) :=
  meq y2 y1
    (mlt (M 16 3) (z0 + z1)
      (fDe_markInodes_53 K9 y1 y2 (z0 + z1) y2 M)
      (fDe_markInodes_54 K9 y1 y2 (z0 + z1) y2 1 M))
    (fDe_markInodes_53 K9 y1 y2 (z0 + z1) y2 M)
def fDe_markInodes_9 : Nat → Int → Int → Mm → Option (Int × Mm)
  | 0, _, _, _ => none
  | n+1, y1, y2, M =>
    mlt y2 126
      (mcn (fDe_isLong y2 M) fun v3 M2 =>
      meq v3 0
        (fDe_markInodes_29 (fDe_markInodes_9 n) y1 y2 y2 1 M2)
        (fDe_markInodes_29 (fDe_markInodes_9 n) y1 y2 y2 2 M2))
      (some (0, M))
def fDe_markInodes (M : Mm) : Option (Int × Mm) :=
  mput M 16 5 0 fun M1 =>
  fDe_markInodes_9 FU 0 0 M1
set_option maxRecDepth 10000 in
theorem wDe_markInodes_54 {v0 : Int} {M9 : Mm} (X : Cy p l e (rmn 2 44) s m args below meth c D aK TX mvX false a0 "PackedImage$Device" cDe_markInodes 4 none (0, v0, M9)) {K9 : Int → Int → Mm → Option (Int × Mm)} (hK9 : ∀ (y1 : Int) (y2 : Int) (M : Mm), K9 y1 y2 M = some (v0, M9) → Wm X 9 [some (.inr 16), some (.inl y1), some (.inl y2), none] [] M) : ∀ (y1 : Int) (y2 : Int) (y3 : Int) (z1 : Int) (z2 : Int) (M : Mm), fDe_markInodes_54 K9 y1 y2 y3 z1 z2 M = some (v0, M9) → Wm X 54 [some (.inr 16), some (.inl y1), some (.inl y2), some (.inl y3)] [.inl z2, .inl z1, .inr 18] M := by
  intro y1 y2 y3 z1 z2 M hf
  unfold fDe_markInodes_54 at hf
  refine x_zast hf tX_18 (by decide) dDe_markInodes_54 (fun M4 hf => ?_)
  refine x_aloadn dDe_markInodes_55 rfl ?_
  refine x_getR gDe_15 tX_16 rfl dDe_markInodes_56 ?_
  refine x_iloadn dDe_markInodes_59 rfl ?_
  refine x_zald hf tX_18 (by decide) dDe_markInodes_60 (fun v5 hf => ?_)
  refine x_eq0 hf dDe_markInodes_61 rfl (fun hf => ?_) (fun hf => ?_)
  · refine x_iinc dDe_markInodes_76 rfl (by decide) ?_
    refine x_goto (tgt := 9) dDe_markInodes_79 rfl ?_
    exact x_mask [true, true, true, false] (hK9 _ _ _ hf)
  · refine x_aloadn dDe_markInodes_64 rfl ?_
    refine x_dup dDe_markInodes_65 ?_
    refine x_getI gDe_55 tX_16 rfl dDe_markInodes_66 ?_
    refine x_iconst dDe_markInodes_69 ?_
    refine x_iadd dDe_markInodes_70 ?_
    refine x_put hf gDe_55 pDe_5 tX_16 rfl dDe_markInodes_71 (fun M6 hf => ?_)
    refine x_iloadn dDe_markInodes_74 rfl ?_
    refine x_istoren dDe_markInodes_75 (by decide) ?_
    refine x_iinc dDe_markInodes_76 rfl (by decide) ?_
    refine x_goto (tgt := 9) dDe_markInodes_79 rfl ?_
    exact x_mask [true, true, true, false] (hK9 _ _ _ hf)
set_option maxRecDepth 10000 in
theorem wDe_markInodes_53 {v0 : Int} {M9 : Mm} (X : Cy p l e (rmn 2 44) s m args below meth c D aK TX mvX false a0 "PackedImage$Device" cDe_markInodes 4 none (0, v0, M9)) {K9 : Int → Int → Mm → Option (Int × Mm)} (hK9 : ∀ (y1 : Int) (y2 : Int) (M : Mm), K9 y1 y2 M = some (v0, M9) → Wm X 9 [some (.inr 16), some (.inl y1), some (.inl y2), none] [] M) : ∀ (y1 : Int) (y2 : Int) (y3 : Int) (z1 : Int) (M : Mm), fDe_markInodes_53 K9 y1 y2 y3 z1 M = some (v0, M9) → Wm X 53 [some (.inr 16), some (.inl y1), some (.inl y2), some (.inl y3)] [.inl z1, .inr 18] M := by
  intro y1 y2 y3 z1 M hf
  unfold fDe_markInodes_53 at hf
  refine x_iconst dDe_markInodes_53 ?_
  exact x_mask [true, true, true, true] (wDe_markInodes_54 X hK9 _ _ _ _ _ _ hf)
set_option maxRecDepth 10000 in
theorem wDe_markInodes_29 {v0 : Int} {M9 : Mm} (X : Cy p l e (rmn 2 44) s m args below meth c D aK TX mvX false a0 "PackedImage$Device" cDe_markInodes 4 none (0, v0, M9)) {K9 : Int → Int → Mm → Option (Int × Mm)} (hK9 : ∀ (y1 : Int) (y2 : Int) (M : Mm), K9 y1 y2 M = some (v0, M9) → Wm X 9 [some (.inr 16), some (.inl y1), some (.inl y2), none] [] M) : ∀ (y1 : Int) (y2 : Int) (z0 : Int) (z1 : Int) (M : Mm), fDe_markInodes_29 K9 y1 y2 z0 z1 M = some (v0, M9) → Wm X 29 [some (.inr 16), some (.inl y1), some (.inl y2), none] [.inl z1, .inl z0] M := by
  intro y1 y2 z0 z1 M hf
  unfold fDe_markInodes_29 at hf
  refine x_iadd dDe_markInodes_29 ?_
  refine x_istoren dDe_markInodes_30 (by decide) ?_
  refine x_aloadn dDe_markInodes_31 rfl ?_
  refine x_getR gDe_15 tX_16 rfl dDe_markInodes_32 ?_
  refine x_iloadn dDe_markInodes_35 rfl ?_
  refine x_iloadn dDe_markInodes_36 rfl ?_
  refine x_iloadn dDe_markInodes_37 rfl ?_
  refine x_ne hf dDe_markInodes_38 rfl (fun hf => ?_) (fun hf => ?_)
  · exact x_mask [true, true, true, true] (wDe_markInodes_53 X hK9 _ _ _ _ _ hf)
  · refine x_iloadn dDe_markInodes_41 rfl ?_
    refine x_aloadn dDe_markInodes_42 rfl ?_
    refine x_getI gDe_37 tX_16 rfl dDe_markInodes_43 ?_
    refine x_gt hf dDe_markInodes_46 rfl (fun hf => ?_) (fun hf => ?_)
    · exact x_mask [true, true, true, true] (wDe_markInodes_53 X hK9 _ _ _ _ _ hf)
    · refine x_iconst dDe_markInodes_49 ?_
      refine x_goto (tgt := 54) dDe_markInodes_50 rfl ?_
      exact x_mask [true, true, true, true] (wDe_markInodes_54 X hK9 _ _ _ _ _ _ hf)
set_option maxRecDepth 10000 in
theorem wDe_markInodes_9 {v0 : Int} {M9 : Mm} (X : Cy p l e (rmn 2 44) s m args below meth c D aK TX mvX false a0 "PackedImage$Device" cDe_markInodes 4 none (0, v0, M9)) : ∀ (n : Nat) (y1 : Int) (y2 : Int) (M : Mm), fDe_markInodes_9 n y1 y2 M = some (v0, M9) → Wm X 9 [some (.inr 16), some (.inl y1), some (.inl y2), none] [] M := by
  intro n
  induction n with
  | zero => intro y1 y2 M hf; exact nomatch (show (none : Option (Int × Mm)) = _ from hf)
  | succ n ih =>
    intro y1 y2 M hf
    rw [fDe_markInodes_9] at hf
    refine x_iloadn dDe_markInodes_9 rfl ?_
    refine x_bipush dDe_markInodes_10 (by decide) ?_
    refine x_ge hf dDe_markInodes_12 rfl (fun hf => ?_) (fun hf => ?_)
    · exact x_vret ⟨_, rt_n hf⟩ rfl dDe_markInodes_82
    · refine x_iloadn dDe_markInodes_15 rfl ?_
      refine x_aloadn dDe_markInodes_16 rfl ?_
      refine x_iloadn dDe_markInodes_17 rfl ?_
      refine x_cvni hf (kDe_isLong X.hst) iDe_isLong lDe_58 tX_16 rfl rfl (by decide) (Nat.le_of_ble_eq_true rfl) dDe_markInodes_18 (fun v3 M2 hf => ?_)
      refine x_eq0 hf dDe_markInodes_21 rfl (fun hf => ?_) (fun hf => ?_)
      · refine x_iconst dDe_markInodes_28 ?_
        exact x_mask [true, true, true, false] (wDe_markInodes_29 X ih _ _ _ _ _ hf)
      · refine x_iconst dDe_markInodes_24 ?_
        refine x_goto (tgt := 29) dDe_markInodes_25 rfl ?_
        exact x_mask [true, true, true, false] (wDe_markInodes_29 X ih _ _ _ _ _ hf)
set_option maxRecDepth 10000 in
theorem wDe_markInodes {v0 : Int} {M9 : Mm} (X : Cy p l e (rmn 2 44) s m args below meth c D aK TX mvX false a0 "PackedImage$Device" cDe_markInodes 4 none (0, v0, M9)) {M : Mm} (hf : fDe_markInodes M = some (v0, M9)) : Wm X 0 [some (.inr 16), none, none, none] [] M := by
  unfold fDe_markInodes at hf
  refine x_aloadn dDe_markInodes_0 rfl ?_
  refine x_iconst dDe_markInodes_1 ?_
  refine x_put hf gDe_55 pDe_5 tX_16 rfl dDe_markInodes_2 (fun M1 hf => ?_)
  refine x_iconst dDe_markInodes_5 ?_
  refine x_istoren dDe_markInodes_6 (by decide) ?_
  refine x_iconst dDe_markInodes_7 ?_
  refine x_istoren dDe_markInodes_8 (by decide) ?_
  exact x_mask [true, true, true, false] (wDe_markInodes_9 X FU _ _ _ hf)
theorem kDe_markInodes {l : Launch} (hl : l.stackTraces = false) {M : Mm} (v0 : Int) (M9 : Mm) (hf : fDe_markInodes M = some (v0, M9)) : Ct l yDe_markInodes (rmn 2 44) TX mvX false none [.inr 16] M (0, v0, M9) := ct_of hl (by decide) iDe_markInodes.1 (Nat.le_of_ble_eq_true rfl) (fun X => wDe_markInodes X hf)
def fDe_open (M : Mm) : Option (Int × Mm) :=
  mcn (fDe_isHeaderRight M) fun v2 M1 =>
  mpuz M1 16 2 v2 fun M3 =>
  meq (M3 16 2) 0
    (mz (M3 16 2) (some ((M3 16 2), M3)))
    (mrd M3 17 1024 3 fun v4 =>
    mput M3 16 3 v4 fun M5 =>
    mrd M5 17 1024 4 fun v6 =>
    mput M5 16 4 v6 fun M7 =>
    mcn (fDe_markInodes M7) fun _ M8 =>
    mz (M8 16 2) (some ((M8 16 2), M8)))
set_option maxRecDepth 10000 in
theorem wDe_open {v0 : Int} {M9 : Mm} (X : Cy p l e (rmn 3 67) s m args below meth c D aK TX mvX false a0 "PackedImage$Device" cDe_open 1 (some .boolean) (0, v0, M9)) {M : Mm} (hf : fDe_open M = some (v0, M9)) : Wm X 0 [some (.inr 16)] [] M := by
  unfold fDe_open at hf
  refine x_aloadn dDe_open_0 rfl ?_
  refine x_aloadn dDe_open_1 rfl ?_
  refine x_cvni hf (kDe_isHeaderRight X.hst) iDe_isHeaderRight lDe_33 tX_16 rfl rfl (by decide) (Nat.le_of_ble_eq_true rfl) dDe_open_2 (fun v2 M1 hf => ?_)
  refine x_putz hf gDe_19 pDe_2 tX_16 rfl dDe_open_5 (fun M3 hf => ?_)
  refine x_aloadn dDe_open_8 rfl ?_
  refine x_getI gDe_19 tX_16 rfl dDe_open_9 ?_
  refine x_eq0 hf dDe_open_12 rfl (fun hf => ?_) (fun hf => ?_)
  · refine x_aloadn dDe_open_39 rfl ?_
    refine x_getI gDe_19 tX_16 rfl dDe_open_40 ?_
    obtain ⟨hz, hf⟩ := mif_of hf
    exact x_zret (rt_n hf) hz rfl dDe_open_43
  · refine x_aloadn dDe_open_15 rfl ?_
    refine x_aloadn dDe_open_16 rfl ?_
    refine x_getR gDe_9 tX_16 rfl dDe_open_17 ?_
    refine x_iconst dDe_open_20 ?_
    refine x_iald hf tX_17 (by decide) dDe_open_21 (fun v4 hf => ?_)
    refine x_put hf gDe_37 pDe_3 tX_16 rfl dDe_open_22 (fun M5 hf => ?_)
    refine x_aloadn dDe_open_25 rfl ?_
    refine x_aloadn dDe_open_26 rfl ?_
    refine x_getR gDe_9 tX_16 rfl dDe_open_27 ?_
    refine x_iconst dDe_open_30 ?_
    refine x_iald hf tX_17 (by decide) dDe_open_31 (fun v6 hf => ?_)
    refine x_put hf gDe_41 pDe_4 tX_16 rfl dDe_open_32 (fun M7 hf => ?_)
    refine x_aloadn dDe_open_35 rfl ?_
    refine x_cvnv hf (kDe_markInodes X.hst) iDe_markInodes lDe_44 tX_16 rfl rfl (by decide) (Nat.le_of_ble_eq_true rfl) dDe_open_36 (fun _ M8 hf => ?_)
    refine x_aloadn dDe_open_39 rfl ?_
    refine x_getI gDe_19 tX_16 rfl dDe_open_40 ?_
    obtain ⟨hz, hf⟩ := mif_of hf
    exact x_zret (rt_n hf) hz rfl dDe_open_43
theorem kDe_open {l : Launch} (hl : l.stackTraces = false) {M : Mm} (v0 : Int) (M9 : Mm) (hf : fDe_open M = some (v0, M9)) : Ct l yDe_open (rmn 3 67) TX mvX false (some .boolean) [.inr 16] M (0, v0, M9) := ct_of hl (by decide) iDe_open.1 (Nat.le_of_ble_eq_true rfl) (fun X => wDe_open X hf)
def fX_mount (M : Mm) : Option (Nat × Int × Mm) :=
  mcn (fCa_empty M) fun _ M1 =>
  mcn (fDe_open M1) fun v3 M2 =>
  meq v3 0
    (some (2, 0, M2))
    (some (0, (M2 16 5), M2))
set_option maxRecDepth 10000 in
theorem wX_mount {r : Nat × Int × Mm} (X : Cy p l e (rmn 6 89) s m args below meth c D aK TX mvX false a0 "PackedImage" cX_mount 1 (some .int) r) {M : Mm} (hf : fX_mount M = some r) : Wm X 0 [some (.inr 0)] [] M := by
  unfold fX_mount at hf
  refine x_aloadn dX_mount_0 rfl ?_
  refine x_getR gX_33 tX_0 rfl dX_mount_1 ?_
  refine x_cvnv hf (kCa_empty X.hst) iCa_empty lX_126 tX_19 rfl rfl (by decide) (Nat.le_of_ble_eq_true rfl) dX_mount_4 (fun _ M1 hf => ?_)
  refine x_aloadn dX_mount_7 rfl ?_
  refine x_getR gX_26 tX_0 rfl dX_mount_8 ?_
  refine x_cvni hf (kDe_open X.hst) iDe_open lX_129 tX_16 rfl rfl (by decide) (Nat.le_of_ble_eq_true rfl) dX_mount_11 (fun v3 M2 hf => ?_)
  refine x_ne0 hf dX_mount_14 rfl (fun hf => ?_) (fun hf => ?_)
  · refine x_aloadn dX_mount_25 rfl ?_
    refine x_getR gX_26 tX_0 rfl dX_mount_26 ?_
    refine x_getI gX_132 tX_16 rfl dX_mount_29 ?_
    exact x_iret (rt_x hf) rfl dX_mount_32
  · exact x_throw (rt_x hf) (by decide) eX_56_58 (by decide) (by decide) ⟨Nat.le_of_ble_eq_true rfl, Nat.le_of_ble_eq_true rfl, Nat.le_of_ble_eq_true rfl, Nat.le_of_ble_eq_true rfl⟩ dX_mount_17 dX_mount_20 dX_mount_21 dX_mount_24
theorem kX_mount {l : Launch} (hl : l.stackTraces = false) {M : Mm} (w : Nat × Int × Mm) (hf : fX_mount M = some w) : Ct l yX_mount (rmn 6 89) TX mvX false (some .int) [.inr 0] M w := ct_of hl (by decide) iX_mount.1 (Nat.le_of_ble_eq_true rfl) (fun X => wX_mount X hf)
def fX_demandMounted (M : Mm) : Option (Nat × Int × Mm) :=
  meq (M 16 2) 0
    (some (2, 0, M))
    (some (0, 0, M))
set_option maxRecDepth 10000 in
theorem wX_demandMounted {r : Nat × Int × Mm} (X : Cy p l e (rmn 6 89) s m args below meth c D aK TX mvX false a0 "PackedImage" cX_demandMounted 1 none r) {M : Mm} (hf : fX_demandMounted M = some r) : Wm X 0 [some (.inr 0)] [] M := by
  unfold fX_demandMounted at hf
  refine x_aloadn dX_demandMounted_0 rfl ?_
  refine x_getR gX_26 tX_0 rfl dX_demandMounted_1 ?_
  refine x_getI gX_184 tX_16 rfl dX_demandMounted_4 ?_
  refine x_ne0 hf dX_demandMounted_7 rfl (fun hf => ?_) (fun hf => ?_)
  · exact x_vret ⟨_, rt_x hf⟩ rfl dX_demandMounted_18
  · exact x_throw (rt_x hf) (by decide) eX_56_58 (by decide) (by decide) ⟨Nat.le_of_ble_eq_true rfl, Nat.le_of_ble_eq_true rfl, Nat.le_of_ble_eq_true rfl, Nat.le_of_ble_eq_true rfl⟩ dX_demandMounted_10 dX_demandMounted_13 dX_demandMounted_14 dX_demandMounted_17
theorem kX_demandMounted {l : Launch} (hl : l.stackTraces = false) {M : Mm} (w : Nat × Int × Mm) (hf : fX_demandMounted M = some w) : Ct l yX_demandMounted (rmn 6 89) TX mvX false none [.inr 0] M w := ct_of hl (by decide) iX_demandMounted.1 (Nat.le_of_ble_eq_true rfl) (fun X => wX_demandMounted X hf)
def fDe_isInode (x1 : Int) (M : Mm) : Option (Int × Mm) :=
  mlt x1 0
    (some (0, M))
    (mlt x1 (M 16 3)
      (mlt x1 126
        (mrd M 18 126 x1 fun v1 =>
        meq v1 0
          (some (0, M))
          (some (1, M)))
        (some (0, M)))
      (some (0, M)))
set_option maxRecDepth 10000 in
theorem wDe_isInode {v0 : Int} {M9 : Mm} (X : Cy p l e (rmn 0 0) s m args below meth c D aK TX mvX false a0 "PackedImage$Device" cDe_isInode 2 (some .boolean) (0, v0, M9)) {x1 : Int} {M : Mm} (hf : fDe_isInode x1 M = some (v0, M9)) : Wm X 0 [some (.inr 16), some (.inl x1)] [] M := by
  unfold fDe_isInode at hf
  refine x_iloadn dDe_isInode_0 rfl ?_
  refine x_lt0 hf dDe_isInode_1 rfl (fun hf => ?_) (fun hf => ?_)
  · refine x_iconst dDe_isInode_31 ?_
    exact x_zret (rt_n hf) (by decide) rfl dDe_isInode_32
  · refine x_iloadn dDe_isInode_4 rfl ?_
    refine x_aloadn dDe_isInode_5 rfl ?_
    refine x_getI gDe_37 tX_16 rfl dDe_isInode_6 ?_
    refine x_ge hf dDe_isInode_9 rfl (fun hf => ?_) (fun hf => ?_)
    · refine x_iconst dDe_isInode_31 ?_
      exact x_zret (rt_n hf) (by decide) rfl dDe_isInode_32
    · refine x_iloadn dDe_isInode_12 rfl ?_
      refine x_bipush dDe_isInode_13 (by decide) ?_
      refine x_ge hf dDe_isInode_15 rfl (fun hf => ?_) (fun hf => ?_)
      · refine x_iconst dDe_isInode_31 ?_
        exact x_zret (rt_n hf) (by decide) rfl dDe_isInode_32
      · refine x_aloadn dDe_isInode_18 rfl ?_
        refine x_getR gDe_15 tX_16 rfl dDe_isInode_19 ?_
        refine x_iloadn dDe_isInode_22 rfl ?_
        refine x_zald hf tX_18 (by decide) dDe_isInode_23 (fun v1 hf => ?_)
        refine x_eq0 hf dDe_isInode_24 rfl (fun hf => ?_) (fun hf => ?_)
        · refine x_iconst dDe_isInode_31 ?_
          exact x_zret (rt_n hf) (by decide) rfl dDe_isInode_32
        · refine x_iconst dDe_isInode_27 ?_
          refine x_goto (tgt := 32) dDe_isInode_28 rfl ?_
          exact x_zret (rt_n hf) (by decide) rfl dDe_isInode_32
theorem kDe_isInode {l : Launch} (hl : l.stackTraces = false) {x1 : Int} {M : Mm} (v0 : Int) (M9 : Mm) (hf : fDe_isInode x1 M = some (v0, M9)) : Ct l yDe_isInode (rmn 0 0) TX mvX false (some .boolean) [.inr 16, .inl x1] M (0, v0, M9) := ct_of hl (by decide) iDe_isInode.1 (Nat.le_of_ble_eq_true rfl) (fun X => wDe_isInode X hf)
def fX_demandInode (x1 : Int) (M : Mm) : Option (Nat × Int × Mm) :=
  mcx (fX_demandMounted M) fun _ M1 =>
  mcn (fDe_isInode x1 M1) fun v3 M2 =>
  meq v3 0
    (some (3, 0, M2))
    (some (0, 0, M2))
set_option maxRecDepth 10000 in
theorem wX_demandInode {r : Nat × Int × Mm} (X : Cy p l e (rmn 7 109) s m args below meth c D aK TX mvX false a0 "PackedImage" cX_demandInode 2 none r) {x1 : Int} {M : Mm} (hf : fX_demandInode x1 M = some r) : Wm X 0 [some (.inr 0), some (.inl x1)] [] M := by
  unfold fX_demandInode at hf
  refine x_aloadn dX_demandInode_0 rfl ?_
  refine x_cvxv hf (kX_demandMounted X.hst) iX_demandMounted lX_171 tX_0 rfl rfl (by decide) (Nat.le_of_ble_eq_true rfl) dX_demandInode_1 (fun _ M1 hf => ?_)
  refine x_aloadn dX_demandInode_4 rfl ?_
  refine x_getR gX_26 tX_0 rfl dX_demandInode_5 ?_
  refine x_iloadn dX_demandInode_8 rfl ?_
  refine x_cvni hf (kDe_isInode X.hst) iDe_isInode lX_194 tX_16 rfl rfl (by decide) (Nat.le_of_ble_eq_true rfl) dX_demandInode_9 (fun v3 M2 hf => ?_)
  refine x_ne0 hf dX_demandInode_12 rfl (fun hf => ?_) (fun hf => ?_)
  · exact x_vret ⟨_, rt_x hf⟩ rfl dX_demandInode_23
  · exact x_throw (rt_x hf) (by decide) eX_159_161 (by decide) (by decide) ⟨Nat.le_of_ble_eq_true rfl, Nat.le_of_ble_eq_true rfl, Nat.le_of_ble_eq_true rfl, Nat.le_of_ble_eq_true rfl⟩ dX_demandInode_15 dX_demandInode_18 dX_demandInode_19 dX_demandInode_22
theorem kX_demandInode {l : Launch} (hl : l.stackTraces = false) {x1 : Int} {M : Mm} (w : Nat × Int × Mm) (hf : fX_demandInode x1 M = some w) : Ct l yX_demandInode (rmn 7 109) TX mvX false none [.inr 0, .inl x1] M w := ct_of hl (by decide) iX_demandInode.1 (Nat.le_of_ble_eq_true rfl) (fun X => wX_demandInode X hf)
def fDe_kindOf (x1 : Int) (M : Mm) : Option (Int × Mm) :=
  mcn (fDe_slotByte x1 0 M) fun v2 M1 =>
  mshr v2 1 fun v3 =>
  some ((v3 % 4), M1)
set_option maxRecDepth 10000 in
theorem wDe_kindOf {v0 : Int} {M9 : Mm} (X : Cy p l e (rmn 1 23) s m args below meth c D aK TX mvX false a0 "PackedImage$Device" cDe_kindOf 2 (some .int) (0, v0, M9)) {x1 : Int} {M : Mm} (hf : fDe_kindOf x1 M = some (v0, M9)) : Wm X 0 [some (.inr 16), some (.inl x1)] [] M := by
  unfold fDe_kindOf at hf
  refine x_aloadn dDe_kindOf_0 rfl ?_
  refine x_iloadn dDe_kindOf_1 rfl ?_
  refine x_iconst dDe_kindOf_2 ?_
  refine x_cvni hf (kDe_slotByte X.hst) iDe_slotByte lDe_62 tX_16 rfl rfl (by decide) (Nat.le_of_ble_eq_true rfl) dDe_kindOf_3 (fun v2 M1 hf => ?_)
  refine x_iconst dDe_kindOf_6 ?_
  refine x_ishr hf dDe_kindOf_7 (fun v3 hf => ?_)
  refine x_iconst dDe_kindOf_8 ?_
  refine x_iandm (an3 _) dDe_kindOf_9 ?_
  exact x_iret (rt_n hf) rfl dDe_kindOf_10
theorem kDe_kindOf {l : Launch} (hl : l.stackTraces = false) {x1 : Int} {M : Mm} (v0 : Int) (M9 : Mm) (hf : fDe_kindOf x1 M = some (v0, M9)) : Ct l yDe_kindOf (rmn 1 23) TX mvX false (some .int) [.inr 16, .inl x1] M (0, v0, M9) := ct_of hl (by decide) iDe_kindOf.1 (Nat.le_of_ble_eq_true rfl) (fun X => wDe_kindOf X hf)
def fDe_layoutOf (x1 : Int) (M : Mm) : Option (Int × Mm) :=
  mcn (fDe_slotByte x1 0 M) fun v2 M1 =>
  mshr v2 3 fun v3 =>
  some ((v3 % 4), M1)
set_option maxRecDepth 10000 in
theorem wDe_layoutOf {v0 : Int} {M9 : Mm} (X : Cy p l e (rmn 1 23) s m args below meth c D aK TX mvX false a0 "PackedImage$Device" cDe_layoutOf 2 (some .int) (0, v0, M9)) {x1 : Int} {M : Mm} (hf : fDe_layoutOf x1 M = some (v0, M9)) : Wm X 0 [some (.inr 16), some (.inl x1)] [] M := by
  unfold fDe_layoutOf at hf
  refine x_aloadn dDe_layoutOf_0 rfl ?_
  refine x_iloadn dDe_layoutOf_1 rfl ?_
  refine x_iconst dDe_layoutOf_2 ?_
  refine x_cvni hf (kDe_slotByte X.hst) iDe_slotByte lDe_62 tX_16 rfl rfl (by decide) (Nat.le_of_ble_eq_true rfl) dDe_layoutOf_3 (fun v2 M1 hf => ?_)
  refine x_iconst dDe_layoutOf_6 ?_
  refine x_ishr hf dDe_layoutOf_7 (fun v3 hf => ?_)
  refine x_iconst dDe_layoutOf_8 ?_
  refine x_iandm (an3 _) dDe_layoutOf_9 ?_
  exact x_iret (rt_n hf) rfl dDe_layoutOf_10
theorem kDe_layoutOf {l : Launch} (hl : l.stackTraces = false) {x1 : Int} {M : Mm} (v0 : Int) (M9 : Mm) (hf : fDe_layoutOf x1 M = some (v0, M9)) : Ct l yDe_layoutOf (rmn 1 23) TX mvX false (some .int) [.inr 16, .inl x1] M (0, v0, M9) := ct_of hl (by decide) iDe_layoutOf.1 (Nat.le_of_ble_eq_true rfl) (fun X => wDe_layoutOf X hf)
def fDe_sizeOf (x1 : Int) (M : Mm) : Option (Int × Mm) :=
  mcn (fDe_slotByte x1 1 M) fun v2 M1 =>
  some (v2, M1)
set_option maxRecDepth 10000 in
theorem wDe_sizeOf {v0 : Int} {M9 : Mm} (X : Cy p l e (rmn 1 23) s m args below meth c D aK TX mvX false a0 "PackedImage$Device" cDe_sizeOf 2 (some .int) (0, v0, M9)) {x1 : Int} {M : Mm} (hf : fDe_sizeOf x1 M = some (v0, M9)) : Wm X 0 [some (.inr 16), some (.inl x1)] [] M := by
  unfold fDe_sizeOf at hf
  refine x_aloadn dDe_sizeOf_0 rfl ?_
  refine x_iloadn dDe_sizeOf_1 rfl ?_
  refine x_iconst dDe_sizeOf_2 ?_
  refine x_cvni hf (kDe_slotByte X.hst) iDe_slotByte lDe_62 tX_16 rfl rfl (by decide) (Nat.le_of_ble_eq_true rfl) dDe_sizeOf_3 (fun v2 M1 hf => ?_)
  exact x_iret (rt_n hf) rfl dDe_sizeOf_6
theorem kDe_sizeOf {l : Launch} (hl : l.stackTraces = false) {x1 : Int} {M : Mm} (v0 : Int) (M9 : Mm) (hf : fDe_sizeOf x1 M = some (v0, M9)) : Ct l yDe_sizeOf (rmn 1 23) TX mvX false (some .int) [.inr 16, .inl x1] M (0, v0, M9) := ct_of hl (by decide) iDe_sizeOf.1 (Nat.le_of_ble_eq_true rfl) (fun X => wDe_sizeOf X hf)
def fDe_countOf (x1 : Int) (M : Mm) : Option (Int × Mm) :=
  mcn (fDe_slotByte x1 3 M) fun v2 M1 =>
  some (v2, M1)
set_option maxRecDepth 10000 in
theorem wDe_countOf {v0 : Int} {M9 : Mm} (X : Cy p l e (rmn 1 23) s m args below meth c D aK TX mvX false a0 "PackedImage$Device" cDe_countOf 2 (some .int) (0, v0, M9)) {x1 : Int} {M : Mm} (hf : fDe_countOf x1 M = some (v0, M9)) : Wm X 0 [some (.inr 16), some (.inl x1)] [] M := by
  unfold fDe_countOf at hf
  refine x_aloadn dDe_countOf_0 rfl ?_
  refine x_iloadn dDe_countOf_1 rfl ?_
  refine x_iconst dDe_countOf_2 ?_
  refine x_cvni hf (kDe_slotByte X.hst) iDe_slotByte lDe_62 tX_16 rfl rfl (by decide) (Nat.le_of_ble_eq_true rfl) dDe_countOf_3 (fun v2 M1 hf => ?_)
  exact x_iret (rt_n hf) rfl dDe_countOf_6
theorem kDe_countOf {l : Launch} (hl : l.stackTraces = false) {x1 : Int} {M : Mm} (v0 : Int) (M9 : Mm) (hf : fDe_countOf x1 M = some (v0, M9)) : Ct l yDe_countOf (rmn 1 23) TX mvX false (some .int) [.inr 16, .inl x1] M (0, v0, M9) := ct_of hl (by decide) iDe_countOf.1 (Nat.le_of_ble_eq_true rfl) (fun X => wDe_countOf X hf)
def fDe_firstBlockOf (x1 : Int) (M : Mm) : Option (Int × Mm) :=
  mcn (fDe_slotByte x1 2 M) fun v2 M1 =>
  some (v2, M1)
set_option maxRecDepth 10000 in
theorem wDe_firstBlockOf {v0 : Int} {M9 : Mm} (X : Cy p l e (rmn 1 23) s m args below meth c D aK TX mvX false a0 "PackedImage$Device" cDe_firstBlockOf 2 (some .int) (0, v0, M9)) {x1 : Int} {M : Mm} (hf : fDe_firstBlockOf x1 M = some (v0, M9)) : Wm X 0 [some (.inr 16), some (.inl x1)] [] M := by
  unfold fDe_firstBlockOf at hf
  refine x_aloadn dDe_firstBlockOf_0 rfl ?_
  refine x_iloadn dDe_firstBlockOf_1 rfl ?_
  refine x_iconst dDe_firstBlockOf_2 ?_
  refine x_cvni hf (kDe_slotByte X.hst) iDe_slotByte lDe_62 tX_16 rfl rfl (by decide) (Nat.le_of_ble_eq_true rfl) dDe_firstBlockOf_3 (fun v2 M1 hf => ?_)
  exact x_iret (rt_n hf) rfl dDe_firstBlockOf_6
theorem kDe_firstBlockOf {l : Launch} (hl : l.stackTraces = false) {x1 : Int} {M : Mm} (v0 : Int) (M9 : Mm) (hf : fDe_firstBlockOf x1 M = some (v0, M9)) : Ct l yDe_firstBlockOf (rmn 1 23) TX mvX false (some .int) [.inr 16, .inl x1] M (0, v0, M9) := ct_of hl (by decide) iDe_firstBlockOf.1 (Nat.le_of_ble_eq_true rfl) (fun X => wDe_firstBlockOf X hf)
def fDe_blocksOf (x1 : Int) (M : Mm) : Option (Int × Mm) :=
  mcn (fDe_layoutOf x1 M) fun v2 M1 =>
  meq v2 1
    (mcn (fDe_sizeOf x1 M1) fun v10 M9 =>
    mdiv v10 16 fun v11 =>
    some (v11, M9))
    (meq v2 2
    (mcn (fDe_slotByte x1 4 M1) fun v8 M7 =>
    some (v8, M7))
    (mcn (fDe_sizeOf x1 M1) fun v4 M3 =>
    mcn (fX_blocksFor v4 M3) fun v6 M5 =>
    some (v6, M5)))
set_option maxRecDepth 10000 in
theorem wDe_blocksOf {v0 : Int} {M9 : Mm} (X : Cy p l e (rmn 2 44) s m args below meth c D aK TX mvX false a0 "PackedImage$Device" cDe_blocksOf 2 (some .int) (0, v0, M9)) {x1 : Int} {M : Mm} (hf : fDe_blocksOf x1 M = some (v0, M9)) : Wm X 0 [some (.inr 16), some (.inl x1)] [] M := by
  unfold fDe_blocksOf at hf
  refine x_aloadn dDe_blocksOf_0 rfl ?_
  refine x_iloadn dDe_blocksOf_1 rfl ?_
  refine x_cvni hf (kDe_layoutOf X.hst) iDe_layoutOf lDe_66 tX_16 rfl rfl (by decide) (Nat.le_of_ble_eq_true rfl) dDe_blocksOf_2 (fun v2 M1 hf => ?_)
  obtain ⟨hr, -, hA, hB⟩ := meq_of hf
  clear hf
  by_cases hc : v2 = 1
  · subst hc
    have hf := hA rfl
    refine x_lookup (tgt := 32) ⟨by decide, by decide⟩ dDe_blocksOf_5 (by decide) rfl rfl ?_
    refine x_aloadn dDe_blocksOf_32 rfl ?_
    refine x_iloadn dDe_blocksOf_33 rfl ?_
    refine x_cvni hf (kDe_sizeOf X.hst) iDe_sizeOf lDe_69 tX_16 rfl rfl (by decide) (Nat.le_of_ble_eq_true rfl) dDe_blocksOf_34 (fun v10 M9 hf => ?_)
    refine x_bipush dDe_blocksOf_37 (by decide) ?_
    refine x_idiv hf dDe_blocksOf_39 (fun v11 hf => ?_)
    exact x_iret (rt_n hf) rfl dDe_blocksOf_40
  · have n1 := hc
    have hf := hB hc
    obtain ⟨hr, -, hA, hB⟩ := meq_of hf
    clear hf
    by_cases hc : v2 = 2
    · subst hc
      have hf := hA rfl
      refine x_lookup (tgt := 41) ⟨by decide, by decide⟩ dDe_blocksOf_5 (by decide) rfl rfl ?_
      refine x_aloadn dDe_blocksOf_41 rfl ?_
      refine x_iloadn dDe_blocksOf_42 rfl ?_
      refine x_iconst dDe_blocksOf_43 ?_
      refine x_cvni hf (kDe_slotByte X.hst) iDe_slotByte lDe_62 tX_16 rfl rfl (by decide) (Nat.le_of_ble_eq_true rfl) dDe_blocksOf_44 (fun v8 M7 hf => ?_)
      exact x_iret (rt_n hf) rfl dDe_blocksOf_47
    · have n2 := hc
      have hf := hB hc
      refine x_lookup (tgt := 48) (off := 43) hr dDe_blocksOf_5 (by decide) (by show Op.lookupswitch.offset [(1, 27), (2, 36)] 43 _ = _; rw [Op.lookupswitch.offset_cons, if_neg (fun z => n1 z.symm), Op.lookupswitch.offset_cons, if_neg (fun z => n2 z.symm)]; rfl) rfl ?_
      refine x_aloadn dDe_blocksOf_48 rfl ?_
      refine x_iloadn dDe_blocksOf_49 rfl ?_
      refine x_cvni hf (kDe_sizeOf X.hst) iDe_sizeOf lDe_69 tX_16 rfl rfl (by decide) (Nat.le_of_ble_eq_true rfl) dDe_blocksOf_50 (fun v4 M3 hf => ?_)
      refine x_csni hf (kX_blocksFor X.hst) iX_blocksFor lDe_72 rfl (by decide) (Nat.le_of_ble_eq_true rfl) dDe_blocksOf_53 (fun v6 M5 hf => ?_)
      exact x_iret (rt_n hf) rfl dDe_blocksOf_56
theorem kDe_blocksOf {l : Launch} (hl : l.stackTraces = false) {x1 : Int} {M : Mm} (v0 : Int) (M9 : Mm) (hf : fDe_blocksOf x1 M = some (v0, M9)) : Ct l yDe_blocksOf (rmn 2 44) TX mvX false (some .int) [.inr 16, .inl x1] M (0, v0, M9) := ct_of hl (by decide) iDe_blocksOf.1 (Nat.le_of_ble_eq_true rfl) (fun X => wDe_blocksOf X hf)
def fDe_hasItsBlocks (x1 : Int) (M : Mm) : Option (Int × Mm) :=
  mcn (fDe_blocksOf x1 M) fun v2 M1 =>
  mcn (fDe_firstBlockOf x1 M1) fun v4 M3 =>
  meq v2 0
    (some (1, M3))
    (mcn (fX_firstBlockBehind (M3 16 3) M3) fun v6 M5 =>
    mlt v4 v6
      (some (0, M5))
      (mlt (M5 16 4) (v4 + v2)
        (some (0, M5))
        (some (1, M5))))
set_option maxRecDepth 10000 in
theorem wDe_hasItsBlocks {v0 : Int} {M9 : Mm} (X : Cy p l e (rmn 3 65) s m args below meth c D aK TX mvX false a0 "PackedImage$Device" cDe_hasItsBlocks 4 (some .boolean) (0, v0, M9)) {x1 : Int} {M : Mm} (hf : fDe_hasItsBlocks x1 M = some (v0, M9)) : Wm X 0 [some (.inr 16), some (.inl x1), none, none] [] M := by
  unfold fDe_hasItsBlocks at hf
  refine x_aloadn dDe_hasItsBlocks_0 rfl ?_
  refine x_iloadn dDe_hasItsBlocks_1 rfl ?_
  refine x_cvni hf (kDe_blocksOf X.hst) iDe_blocksOf lDe_84 tX_16 rfl rfl (by decide) (Nat.le_of_ble_eq_true rfl) dDe_hasItsBlocks_2 (fun v2 M1 hf => ?_)
  refine x_istoren dDe_hasItsBlocks_5 (by decide) ?_
  refine x_aloadn dDe_hasItsBlocks_6 rfl ?_
  refine x_iloadn dDe_hasItsBlocks_7 rfl ?_
  refine x_cvni hf (kDe_firstBlockOf X.hst) iDe_firstBlockOf lDe_87 tX_16 rfl rfl (by decide) (Nat.le_of_ble_eq_true rfl) dDe_hasItsBlocks_8 (fun v4 M3 hf => ?_)
  refine x_istoren dDe_hasItsBlocks_11 (by decide) ?_
  refine x_iloadn dDe_hasItsBlocks_12 rfl ?_
  refine x_eq0 hf dDe_hasItsBlocks_13 rfl (fun hf => ?_) (fun hf => ?_)
  · refine x_iconst dDe_hasItsBlocks_37 ?_
    refine x_goto (tgt := 42) dDe_hasItsBlocks_38 rfl ?_
    exact x_zret (rt_n hf) (by decide) rfl dDe_hasItsBlocks_42
  · refine x_iloadn dDe_hasItsBlocks_16 rfl ?_
    refine x_aloadn dDe_hasItsBlocks_17 rfl ?_
    refine x_getI gDe_37 tX_16 rfl dDe_hasItsBlocks_18 ?_
    refine x_csni hf (kX_firstBlockBehind X.hst) iX_firstBlockBehind lDe_51 rfl (by decide) (Nat.le_of_ble_eq_true rfl) dDe_hasItsBlocks_21 (fun v6 M5 hf => ?_)
    refine x_lt hf dDe_hasItsBlocks_24 rfl (fun hf => ?_) (fun hf => ?_)
    · refine x_iconst dDe_hasItsBlocks_41 ?_
      exact x_zret (rt_n hf) (by decide) rfl dDe_hasItsBlocks_42
    · refine x_iloadn dDe_hasItsBlocks_27 rfl ?_
      refine x_iloadn dDe_hasItsBlocks_28 rfl ?_
      refine x_iadd dDe_hasItsBlocks_29 ?_
      refine x_aloadn dDe_hasItsBlocks_30 rfl ?_
      refine x_getI gDe_41 tX_16 rfl dDe_hasItsBlocks_31 ?_
      refine x_gt hf dDe_hasItsBlocks_34 rfl (fun hf => ?_) (fun hf => ?_)
      · refine x_iconst dDe_hasItsBlocks_41 ?_
        exact x_zret (rt_n hf) (by decide) rfl dDe_hasItsBlocks_42
      · refine x_iconst dDe_hasItsBlocks_37 ?_
        refine x_goto (tgt := 42) dDe_hasItsBlocks_38 rfl ?_
        exact x_zret (rt_n hf) (by decide) rfl dDe_hasItsBlocks_42
theorem kDe_hasItsBlocks {l : Launch} (hl : l.stackTraces = false) {x1 : Int} {M : Mm} (v0 : Int) (M9 : Mm) (hf : fDe_hasItsBlocks x1 M = some (v0, M9)) : Ct l yDe_hasItsBlocks (rmn 3 65) TX mvX false (some .boolean) [.inr 16, .inl x1] M (0, v0, M9) := ct_of hl (by decide) iDe_hasItsBlocks.1 (Nat.le_of_ble_eq_true rfl) (fun X => wDe_hasItsBlocks X hf)
def fDe_clusterEnd (x1 : Int) (x2 : Int) (M : Mm) : Option (Int × Mm) :=
  mcn (fDe_slotByte x1 (5 + x2) M) fun v2 M1 =>
  some (v2, M1)
set_option maxRecDepth 10000 in
theorem wDe_clusterEnd {v0 : Int} {M9 : Mm} (X : Cy p l e (rmn 1 23) s m args below meth c D aK TX mvX false a0 "PackedImage$Device" cDe_clusterEnd 3 (some .int) (0, v0, M9)) {x1 : Int} {x2 : Int} {M : Mm} (hf : fDe_clusterEnd x1 x2 M = some (v0, M9)) : Wm X 0 [some (.inr 16), some (.inl x1), some (.inl x2)] [] M := by
  unfold fDe_clusterEnd at hf
  refine x_aloadn dDe_clusterEnd_0 rfl ?_
  refine x_iloadn dDe_clusterEnd_1 rfl ?_
  refine x_iconst dDe_clusterEnd_2 ?_
  refine x_iloadn dDe_clusterEnd_3 rfl ?_
  refine x_iadd dDe_clusterEnd_4 ?_
  refine x_cvni hf (kDe_slotByte X.hst) iDe_slotByte lDe_62 tX_16 rfl rfl (by decide) (Nat.le_of_ble_eq_true rfl) dDe_clusterEnd_5 (fun v2 M1 hf => ?_)
  exact x_iret (rt_n hf) rfl dDe_clusterEnd_8
theorem kDe_clusterEnd {l : Launch} (hl : l.stackTraces = false) {x1 : Int} {x2 : Int} {M : Mm} (v0 : Int) (M9 : Mm) (hf : fDe_clusterEnd x1 x2 M = some (v0, M9)) : Ct l yDe_clusterEnd (rmn 1 23) TX mvX false (some .int) [.inr 16, .inl x1, .inl x2] M (0, v0, M9) := ct_of hl (by decide) iDe_clusterEnd.1 (Nat.le_of_ble_eq_true rfl) (fun X => wDe_clusterEnd X hf)
def fDe_clusterStart (x1 : Int) (x2 : Int) (M : Mm) : Option (Int × Mm) :=
  meq x2 0
    (some (0, M))
    (mcn (fDe_clusterEnd x1 (x2 - 1) M) fun v2 M1 =>
    some (v2, M1))
set_option maxRecDepth 10000 in
theorem wDe_clusterStart {v0 : Int} {M9 : Mm} (X : Cy p l e (rmn 2 45) s m args below meth c D aK TX mvX false a0 "PackedImage$Device" cDe_clusterStart 3 (some .int) (0, v0, M9)) {x1 : Int} {x2 : Int} {M : Mm} (hf : fDe_clusterStart x1 x2 M = some (v0, M9)) : Wm X 0 [some (.inr 16), some (.inl x1), some (.inl x2)] [] M := by
  unfold fDe_clusterStart at hf
  refine x_iloadn dDe_clusterStart_0 rfl ?_
  refine x_ne0 hf dDe_clusterStart_1 rfl (fun hf => ?_) (fun hf => ?_)
  · refine x_aloadn dDe_clusterStart_8 rfl ?_
    refine x_iloadn dDe_clusterStart_9 rfl ?_
    refine x_iloadn dDe_clusterStart_10 rfl ?_
    refine x_iconst dDe_clusterStart_11 ?_
    refine x_isub dDe_clusterStart_12 ?_
    refine x_cvni hf (kDe_clusterEnd X.hst) iDe_clusterEnd lDe_90 tX_16 rfl rfl (by decide) (Nat.le_of_ble_eq_true rfl) dDe_clusterStart_13 (fun v2 M1 hf => ?_)
    exact x_iret (rt_n hf) rfl dDe_clusterStart_16
  · refine x_iconst dDe_clusterStart_4 ?_
    refine x_goto (tgt := 16) dDe_clusterStart_5 rfl ?_
    exact x_iret (rt_n hf) rfl dDe_clusterStart_16
theorem kDe_clusterStart {l : Launch} (hl : l.stackTraces = false) {x1 : Int} {x2 : Int} {M : Mm} (v0 : Int) (M9 : Mm) (hf : fDe_clusterStart x1 x2 M = some (v0, M9)) : Ct l yDe_clusterStart (rmn 2 45) TX mvX false (some .int) [.inr 16, .inl x1, .inl x2] M (0, v0, M9) := ct_of hl (by decide) iDe_clusterStart.1 (Nat.le_of_ble_eq_true rfl) (fun X => wDe_clusterStart X hf)
def fDe_hasRightEnds_22 : Nat → Int → Int → Int → Mm → Option (Int × Mm)
  | 0, _, _, _, _ => none
  | n+1, y1, y2, y3, M =>
    mlt y3 y2
      (mcn (fDe_clusterEnd y1 y3 M) fun v8 M7 =>
      mcn (fDe_clusterStart y1 y3 M7) fun v10 M9 =>
      mlt v10 v8
        ((fDe_hasRightEnds_22 n) y1 y2 (y3 + 1) M9)
        (some (0, M9)))
      (mcn (fDe_clusterEnd y1 (y2 - 1) M) fun v4 M3 =>
      mcn (fDe_sizeOf y1 M3) fun v6 M5 =>
      meq v4 v6
        (some (1, M5))
        (some (0, M5)))
def fDe_hasRightEnds (x1 : Int) (M : Mm) : Option (Int × Mm) :=
  mcn (fDe_slotByte x1 4 M) fun v2 M1 =>
  mlt v2 1
    (some (0, M1))
    (mlt 11 v2
      (some (0, M1))
      (fDe_hasRightEnds_22 FU x1 v2 0 M1))
set_option maxRecDepth 10000 in
theorem wDe_hasRightEnds_22 {v0 : Int} {M9 : Mm} (X : Cy p l e (rmn 3 67) s m args below meth c D aK TX mvX false a0 "PackedImage$Device" cDe_hasRightEnds 4 (some .boolean) (0, v0, M9)) : ∀ (n : Nat) (y1 : Int) (y2 : Int) (y3 : Int) (M : Mm), fDe_hasRightEnds_22 n y1 y2 y3 M = some (v0, M9) → Wm X 22 [some (.inr 16), some (.inl y1), some (.inl y2), some (.inl y3)] [] M := by
  intro n
  induction n with
  | zero => intro y1 y2 y3 M hf; exact nomatch (show (none : Option (Int × Mm)) = _ from hf)
  | succ n ih =>
    intro y1 y2 y3 M hf
    rw [fDe_hasRightEnds_22] at hf
    refine x_iloadn dDe_hasRightEnds_22 rfl ?_
    refine x_iloadn dDe_hasRightEnds_23 rfl ?_
    refine x_ge hf dDe_hasRightEnds_24 rfl (fun hf => ?_) (fun hf => ?_)
    · refine x_aloadn dDe_hasRightEnds_50 rfl ?_
      refine x_iloadn dDe_hasRightEnds_51 rfl ?_
      refine x_iloadn dDe_hasRightEnds_52 rfl ?_
      refine x_iconst dDe_hasRightEnds_53 ?_
      refine x_isub dDe_hasRightEnds_54 ?_
      refine x_cvni hf (kDe_clusterEnd X.hst) iDe_clusterEnd lDe_90 tX_16 rfl rfl (by decide) (Nat.le_of_ble_eq_true rfl) dDe_hasRightEnds_55 (fun v4 M3 hf => ?_)
      refine x_aloadn dDe_hasRightEnds_58 rfl ?_
      refine x_iloadn dDe_hasRightEnds_59 rfl ?_
      refine x_cvni hf (kDe_sizeOf X.hst) iDe_sizeOf lDe_69 tX_16 rfl rfl (by decide) (Nat.le_of_ble_eq_true rfl) dDe_hasRightEnds_60 (fun v6 M5 hf => ?_)
      refine x_ne hf dDe_hasRightEnds_63 rfl (fun hf => ?_) (fun hf => ?_)
      · refine x_iconst dDe_hasRightEnds_70 ?_
        exact x_zret (rt_n hf) (by decide) rfl dDe_hasRightEnds_71
      · refine x_iconst dDe_hasRightEnds_66 ?_
        refine x_goto (tgt := 71) dDe_hasRightEnds_67 rfl ?_
        exact x_zret (rt_n hf) (by decide) rfl dDe_hasRightEnds_71
    · refine x_aloadn dDe_hasRightEnds_27 rfl ?_
      refine x_iloadn dDe_hasRightEnds_28 rfl ?_
      refine x_iloadn dDe_hasRightEnds_29 rfl ?_
      refine x_cvni hf (kDe_clusterEnd X.hst) iDe_clusterEnd lDe_90 tX_16 rfl rfl (by decide) (Nat.le_of_ble_eq_true rfl) dDe_hasRightEnds_30 (fun v8 M7 hf => ?_)
      refine x_aloadn dDe_hasRightEnds_33 rfl ?_
      refine x_iloadn dDe_hasRightEnds_34 rfl ?_
      refine x_iloadn dDe_hasRightEnds_35 rfl ?_
      refine x_cvni hf (kDe_clusterStart X.hst) iDe_clusterStart lDe_93 tX_16 rfl rfl (by decide) (Nat.le_of_ble_eq_true rfl) dDe_hasRightEnds_36 (fun v10 M9 hf => ?_)
      refine x_gt hf dDe_hasRightEnds_39 rfl (fun hf => ?_) (fun hf => ?_)
      · refine x_iinc dDe_hasRightEnds_44 rfl (by decide) ?_
        refine x_goto (tgt := 22) dDe_hasRightEnds_47 rfl ?_
        exact x_mask [true, true, true, true] (ih _ _ _ _ hf)
      · refine x_iconst dDe_hasRightEnds_42 ?_
        exact x_zret (rt_n hf) (by decide) rfl dDe_hasRightEnds_43
set_option maxRecDepth 10000 in
theorem wDe_hasRightEnds {v0 : Int} {M9 : Mm} (X : Cy p l e (rmn 3 67) s m args below meth c D aK TX mvX false a0 "PackedImage$Device" cDe_hasRightEnds 4 (some .boolean) (0, v0, M9)) {x1 : Int} {M : Mm} (hf : fDe_hasRightEnds x1 M = some (v0, M9)) : Wm X 0 [some (.inr 16), some (.inl x1), none, none] [] M := by
  unfold fDe_hasRightEnds at hf
  refine x_aloadn dDe_hasRightEnds_0 rfl ?_
  refine x_iloadn dDe_hasRightEnds_1 rfl ?_
  refine x_iconst dDe_hasRightEnds_2 ?_
  refine x_cvni hf (kDe_slotByte X.hst) iDe_slotByte lDe_62 tX_16 rfl rfl (by decide) (Nat.le_of_ble_eq_true rfl) dDe_hasRightEnds_3 (fun v2 M1 hf => ?_)
  refine x_istoren dDe_hasRightEnds_6 (by decide) ?_
  refine x_iloadn dDe_hasRightEnds_7 rfl ?_
  refine x_iconst dDe_hasRightEnds_8 ?_
  refine x_lt hf dDe_hasRightEnds_9 rfl (fun hf => ?_) (fun hf => ?_)
  · refine x_iconst dDe_hasRightEnds_18 ?_
    exact x_zret (rt_n hf) (by decide) rfl dDe_hasRightEnds_19
  · refine x_iloadn dDe_hasRightEnds_12 rfl ?_
    refine x_bipush dDe_hasRightEnds_13 (by decide) ?_
    refine x_le hf dDe_hasRightEnds_15 rfl (fun hf => ?_) (fun hf => ?_)
    · refine x_iconst dDe_hasRightEnds_20 ?_
      refine x_istoren dDe_hasRightEnds_21 (by decide) ?_
      exact x_mask [true, true, true, true] (wDe_hasRightEnds_22 X FU _ _ _ _ hf)
    · refine x_iconst dDe_hasRightEnds_18 ?_
      exact x_zret (rt_n hf) (by decide) rfl dDe_hasRightEnds_19
theorem kDe_hasRightEnds {l : Launch} (hl : l.stackTraces = false) {x1 : Int} {M : Mm} (v0 : Int) (M9 : Mm) (hf : fDe_hasRightEnds x1 M = some (v0, M9)) : Ct l yDe_hasRightEnds (rmn 3 67) TX mvX false (some .boolean) [.inr 16, .inl x1] M (0, v0, M9) := ct_of hl (by decide) iDe_hasRightEnds.1 (Nat.le_of_ble_eq_true rfl) (fun X => wDe_hasRightEnds X hf)
def fDe_isBad_84 (y1 z0 z1 : Int) (M : Mm) : Option (Int × Mm) :=
  mlt z1 z0
    (some (1, M))
    (mcn (fDe_hasItsBlocks y1 M) fun v19 M18 =>
    meq v19 0
      (some (1, M18))
      (some (0, M18)))
def fDe_isBad_27 (y1 y2 : Int) (M : Mm) : Option (Int × Mm) :=
  mcn (fDe_layoutOf y1 M) fun v4 M3 =>
  meq v4 1
    (mcn (fDe_sizeOf y1 M3) fun v14 M13 =>
    mrem v14 16 fun v15 =>
    mcn (fDe_isLong y1 M13) fun v17 M16 =>
    meq v17 0
      (fDe_isBad_84 y1 v15 4 M16)
      (fDe_isBad_84 y1 v15 12 M16))
    (meq v4 2
    (meq y2 1
      (mcn (fDe_isLong y1 M3) fun v8 M7 =>
      meq v8 0
        (some (1, M7))
        (mcn (fDe_hasRightEnds y1 M7) fun v10 M9 =>
        meq v10 0
          (some (1, M9))
          (mcn (fDe_hasItsBlocks y1 M9) fun v12 M11 =>
          meq v12 0
            (some (1, M11))
            (some (0, M11)))))
      (some (1, M3)))
    (meq v4 3
    (some (1, M3))
    (mcn (fDe_hasItsBlocks y1 M3) fun v6 M5 =>
    meq v6 0
      (some (1, M5))
      (some (0, M5)))))
def fDe_isBad (x1 : Int) (M : Mm) : Option (Int × Mm) :=
  mcn (fDe_kindOf x1 M) fun v2 M1 =>
  meq v2 3
    (some (1, M1))
    (meq v2 0
      (mcn (fDe_sizeOf x1 M1) fun v21 M20 =>
      mrem v21 3 fun v22 =>
      meq v22 0
        (fDe_isBad_27 x1 v2 M20)
        (some (1, M20)))
      (fDe_isBad_27 x1 v2 M1))
set_option maxRecDepth 10000 in
theorem wDe_isBad_84 {v0 : Int} {M9 : Mm} (X : Cy p l e (rmn 4 90) s m args below meth c D aK TX mvX false a0 "PackedImage$Device" cDe_isBad 3 (some .boolean) (0, v0, M9)) : ∀ (y1 : Int) (z0 : Int) (z1 : Int) (M : Mm), fDe_isBad_84 y1 z0 z1 M = some (v0, M9) → Wm X 84 [some (.inr 16), some (.inl y1), none] [.inl z1, .inl z0] M := by
  intro y1 z0 z1 M hf
  unfold fDe_isBad_84 at hf
  refine x_gt hf dDe_isBad_84 rfl (fun hf => ?_) (fun hf => ?_)
  · refine x_iconst dDe_isBad_95 ?_
    refine x_goto (tgt := 100) dDe_isBad_96 rfl ?_
    exact x_zret (rt_n hf) (by decide) rfl dDe_isBad_100
  · refine x_aloadn dDe_isBad_87 rfl ?_
    refine x_iloadn dDe_isBad_88 rfl ?_
    refine x_cvni hf (kDe_hasItsBlocks X.hst) iDe_hasItsBlocks lDe_78 tX_16 rfl rfl (by decide) (Nat.le_of_ble_eq_true rfl) dDe_isBad_89 (fun v19 M18 hf => ?_)
    refine x_ne0 hf dDe_isBad_92 rfl (fun hf => ?_) (fun hf => ?_)
    · refine x_iconst dDe_isBad_99 ?_
      exact x_zret (rt_n hf) (by decide) rfl dDe_isBad_100
    · refine x_iconst dDe_isBad_95 ?_
      refine x_goto (tgt := 100) dDe_isBad_96 rfl ?_
      exact x_zret (rt_n hf) (by decide) rfl dDe_isBad_100
set_option maxRecDepth 10000 in
theorem wDe_isBad_27 {v0 : Int} {M9 : Mm} (X : Cy p l e (rmn 4 90) s m args below meth c D aK TX mvX false a0 "PackedImage$Device" cDe_isBad 3 (some .boolean) (0, v0, M9)) : ∀ (y1 : Int) (y2 : Int) (M : Mm), fDe_isBad_27 y1 y2 M = some (v0, M9) → Wm X 27 [some (.inr 16), some (.inl y1), some (.inl y2)] [] M := by
  intro y1 y2 M hf
  unfold fDe_isBad_27 at hf
  refine x_aloadn dDe_isBad_27 rfl ?_
  refine x_iloadn dDe_isBad_28 rfl ?_
  refine x_cvni hf (kDe_layoutOf X.hst) iDe_layoutOf lDe_66 tX_16 rfl rfl (by decide) (Nat.le_of_ble_eq_true rfl) dDe_isBad_29 (fun v4 M3 hf => ?_)
  obtain ⟨hr, -, hA, hB⟩ := meq_of hf
  clear hf
  by_cases hc : v4 = 1
  · subst hc
    have hf := hA rfl
    refine x_table (tgt := 62) ⟨by decide, by decide⟩ dDe_isBad_32 (fun _ _ => ⟨_, rfl, rfl⟩) (fun z => absurd z (by decide)) ?_
    refine x_aloadn dDe_isBad_62 rfl ?_
    refine x_iloadn dDe_isBad_63 rfl ?_
    refine x_cvni hf (kDe_sizeOf X.hst) iDe_sizeOf lDe_69 tX_16 rfl rfl (by decide) (Nat.le_of_ble_eq_true rfl) dDe_isBad_64 (fun v14 M13 hf => ?_)
    refine x_bipush dDe_isBad_67 (by decide) ?_
    refine x_irem hf dDe_isBad_69 (fun v15 hf => ?_)
    refine x_aloadn dDe_isBad_70 rfl ?_
    refine x_iloadn dDe_isBad_71 rfl ?_
    refine x_cvni hf (kDe_isLong X.hst) iDe_isLong lDe_58 tX_16 rfl rfl (by decide) (Nat.le_of_ble_eq_true rfl) dDe_isBad_72 (fun v17 M16 hf => ?_)
    refine x_eq0 hf dDe_isBad_75 rfl (fun hf => ?_) (fun hf => ?_)
    · refine x_iconst dDe_isBad_83 ?_
      exact x_mask [true, true, false] (wDe_isBad_84 X _ _ _ _ hf)
    · refine x_bipush dDe_isBad_78 (by decide) ?_
      refine x_goto (tgt := 84) dDe_isBad_80 rfl ?_
      exact x_mask [true, true, false] (wDe_isBad_84 X _ _ _ _ hf)
  · have n1 := hc
    have hf := hB hc
    obtain ⟨hr, -, hA, hB⟩ := meq_of hf
    clear hf
    by_cases hc : v4 = 2
    · subst hc
      have hf := hA rfl
      refine x_table (tgt := 101) ⟨by decide, by decide⟩ dDe_isBad_32 (fun _ _ => ⟨_, rfl, rfl⟩) (fun z => absurd z (by decide)) ?_
      refine x_iloadn dDe_isBad_101 rfl ?_
      refine x_iconst dDe_isBad_102 ?_
      refine x_ne hf dDe_isBad_103 rfl (fun hf => ?_) (fun hf => ?_)
      · refine x_iconst dDe_isBad_130 ?_
        refine x_goto (tgt := 135) dDe_isBad_131 rfl ?_
        exact x_zret (rt_n hf) (by decide) rfl dDe_isBad_135
      · refine x_aloadn dDe_isBad_106 rfl ?_
        refine x_iloadn dDe_isBad_107 rfl ?_
        refine x_cvni hf (kDe_isLong X.hst) iDe_isLong lDe_58 tX_16 rfl rfl (by decide) (Nat.le_of_ble_eq_true rfl) dDe_isBad_108 (fun v8 M7 hf => ?_)
        refine x_eq0 hf dDe_isBad_111 rfl (fun hf => ?_) (fun hf => ?_)
        · refine x_iconst dDe_isBad_130 ?_
          refine x_goto (tgt := 135) dDe_isBad_131 rfl ?_
          exact x_zret (rt_n hf) (by decide) rfl dDe_isBad_135
        · refine x_aloadn dDe_isBad_114 rfl ?_
          refine x_iloadn dDe_isBad_115 rfl ?_
          refine x_cvni hf (kDe_hasRightEnds X.hst) iDe_hasRightEnds lDe_81 tX_16 rfl rfl (by decide) (Nat.le_of_ble_eq_true rfl) dDe_isBad_116 (fun v10 M9 hf => ?_)
          refine x_eq0 hf dDe_isBad_119 rfl (fun hf => ?_) (fun hf => ?_)
          · refine x_iconst dDe_isBad_130 ?_
            refine x_goto (tgt := 135) dDe_isBad_131 rfl ?_
            exact x_zret (rt_n hf) (by decide) rfl dDe_isBad_135
          · refine x_aloadn dDe_isBad_122 rfl ?_
            refine x_iloadn dDe_isBad_123 rfl ?_
            refine x_cvni hf (kDe_hasItsBlocks X.hst) iDe_hasItsBlocks lDe_78 tX_16 rfl rfl (by decide) (Nat.le_of_ble_eq_true rfl) dDe_isBad_124 (fun v12 M11 hf => ?_)
            refine x_ne0 hf dDe_isBad_127 rfl (fun hf => ?_) (fun hf => ?_)
            · refine x_iconst dDe_isBad_134 ?_
              exact x_zret (rt_n hf) (by decide) rfl dDe_isBad_135
            · refine x_iconst dDe_isBad_130 ?_
              refine x_goto (tgt := 135) dDe_isBad_131 rfl ?_
              exact x_zret (rt_n hf) (by decide) rfl dDe_isBad_135
    · have n2 := hc
      have hf := hB hc
      obtain ⟨hr, -, hA, hB⟩ := meq_of hf
      clear hf
      by_cases hc : v4 = 3
      · subst hc
        have hf := hA rfl
        refine x_table (tgt := 60) ⟨by decide, by decide⟩ dDe_isBad_32 (fun _ _ => ⟨_, rfl, rfl⟩) (fun z => absurd z (by decide)) ?_
        refine x_iconst dDe_isBad_60 ?_
        exact x_zret (rt_n hf) (by decide) rfl dDe_isBad_61
      · have n3 := hc
        have hf := hB hc
        refine x_table (tgt := 136) hr dDe_isBad_32 (fun z1 z2 => by exfalso; omega) (fun _ => rfl) ?_
        refine x_aloadn dDe_isBad_136 rfl ?_
        refine x_iloadn dDe_isBad_137 rfl ?_
        refine x_cvni hf (kDe_hasItsBlocks X.hst) iDe_hasItsBlocks lDe_78 tX_16 rfl rfl (by decide) (Nat.le_of_ble_eq_true rfl) dDe_isBad_138 (fun v6 M5 hf => ?_)
        refine x_ne0 hf dDe_isBad_141 rfl (fun hf => ?_) (fun hf => ?_)
        · refine x_iconst dDe_isBad_148 ?_
          exact x_zret (rt_n hf) (by decide) rfl dDe_isBad_149
        · refine x_iconst dDe_isBad_144 ?_
          refine x_goto (tgt := 149) dDe_isBad_145 rfl ?_
          exact x_zret (rt_n hf) (by decide) rfl dDe_isBad_149
set_option maxRecDepth 10000 in
theorem wDe_isBad {v0 : Int} {M9 : Mm} (X : Cy p l e (rmn 4 90) s m args below meth c D aK TX mvX false a0 "PackedImage$Device" cDe_isBad 3 (some .boolean) (0, v0, M9)) {x1 : Int} {M : Mm} (hf : fDe_isBad x1 M = some (v0, M9)) : Wm X 0 [some (.inr 16), some (.inl x1), none] [] M := by
  unfold fDe_isBad at hf
  refine x_aloadn dDe_isBad_0 rfl ?_
  refine x_iloadn dDe_isBad_1 rfl ?_
  refine x_cvni hf (kDe_kindOf X.hst) iDe_kindOf lDe_75 tX_16 rfl rfl (by decide) (Nat.le_of_ble_eq_true rfl) dDe_isBad_2 (fun v2 M1 hf => ?_)
  refine x_istoren dDe_isBad_5 (by decide) ?_
  refine x_iloadn dDe_isBad_6 rfl ?_
  refine x_iconst dDe_isBad_7 ?_
  refine x_eq hf dDe_isBad_8 rfl (fun hf => ?_) (fun hf => ?_)
  · refine x_iconst dDe_isBad_25 ?_
    exact x_zret (rt_n hf) (by decide) rfl dDe_isBad_26
  · refine x_iloadn dDe_isBad_11 rfl ?_
    refine x_ne0 hf dDe_isBad_12 rfl (fun hf => ?_) (fun hf => ?_)
    · exact x_mask [true, true, true] (wDe_isBad_27 X _ _ _ hf)
    · refine x_aloadn dDe_isBad_15 rfl ?_
      refine x_iloadn dDe_isBad_16 rfl ?_
      refine x_cvni hf (kDe_sizeOf X.hst) iDe_sizeOf lDe_69 tX_16 rfl rfl (by decide) (Nat.le_of_ble_eq_true rfl) dDe_isBad_17 (fun v21 M20 hf => ?_)
      refine x_iconst dDe_isBad_20 ?_
      refine x_irem hf dDe_isBad_21 (fun v22 hf => ?_)
      refine x_eq0 hf dDe_isBad_22 rfl (fun hf => ?_) (fun hf => ?_)
      · exact x_mask [true, true, true] (wDe_isBad_27 X _ _ _ hf)
      · refine x_iconst dDe_isBad_25 ?_
        exact x_zret (rt_n hf) (by decide) rfl dDe_isBad_26
theorem kDe_isBad {l : Launch} (hl : l.stackTraces = false) {x1 : Int} {M : Mm} (v0 : Int) (M9 : Mm) (hf : fDe_isBad x1 M = some (v0, M9)) : Ct l yDe_isBad (rmn 4 90) TX mvX false (some .boolean) [.inr 16, .inl x1] M (0, v0, M9) := ct_of hl (by decide) iDe_isBad.1 (Nat.le_of_ble_eq_true rfl) (fun X => wDe_isBad X hf)
def fX_stat (x1 : Int) (x2 : Int) (M : Mm) : Option (Nat × Int × Mm) :=
  mcx (fX_demandInode x1 M) fun _ M1 =>
  meq x2 0
    (mcn (fDe_kindOf x1 M1) fun v13 M12 =>
    some (0, v13, M12))
    (meq x2 1
    (mcn (fDe_layoutOf x1 M1) fun v11 M10 =>
    some (0, v11, M10))
    (meq x2 2
    (mcn (fDe_sizeOf x1 M1) fun v9 M8 =>
    some (0, v9, M8))
    (meq x2 3
    (mcn (fDe_countOf x1 M1) fun v7 M6 =>
    some (0, v7, M6))
    (meq x2 4
    (mcn (fDe_firstBlockOf x1 M1) fun v5 M4 =>
    some (0, v5, M4))
    (meq x2 5
    (mcn (fDe_isBad x1 M1) fun v3 M2 =>
    meq v3 0
      (some (0, 0, M2))
      (some (0, 1, M2)))
    (some (1, 0, M1)))))))
set_option maxRecDepth 10000 in
theorem wX_stat {r : Nat × Int × Mm} (X : Cy p l e (rmn 8 130) s m args below meth c D aK TX mvX false a0 "PackedImage" cX_stat 3 (some .int) r) {x1 : Int} {x2 : Int} {M : Mm} (hf : fX_stat x1 x2 M = some r) : Wm X 0 [some (.inr 0), some (.inl x1), some (.inl x2)] [] M := by
  unfold fX_stat at hf
  refine x_aloadn dX_stat_0 rfl ?_
  refine x_iloadn dX_stat_1 rfl ?_
  refine x_cvxv hf (kX_demandInode X.hst) iX_demandInode lX_135 tX_0 rfl rfl (by decide) (Nat.le_of_ble_eq_true rfl) dX_stat_2 (fun _ M1 hf => ?_)
  refine x_iloadn dX_stat_5 rfl ?_
  obtain ⟨hr, -, hA, hB⟩ := meq_of hf
  clear hf
  by_cases hc : x2 = 0
  · subst hc
    have hf := hA rfl
    refine x_table (tgt := 44) ⟨by decide, by decide⟩ dX_stat_6 (fun _ _ => ⟨_, rfl, rfl⟩) (fun z => absurd z (by decide)) ?_
    refine x_aloadn dX_stat_44 rfl ?_
    refine x_getR gX_26 tX_0 rfl dX_stat_45 ?_
    refine x_iloadn dX_stat_48 rfl ?_
    refine x_cvni hf (kDe_kindOf X.hst) iDe_kindOf lX_138 tX_16 rfl rfl (by decide) (Nat.le_of_ble_eq_true rfl) dX_stat_49 (fun v13 M12 hf => ?_)
    exact x_iret (rt_x hf) rfl dX_stat_52
  · have n0 := hc
    have hf := hB hc
    obtain ⟨hr, -, hA, hB⟩ := meq_of hf
    clear hf
    by_cases hc : x2 = 1
    · subst hc
      have hf := hA rfl
      refine x_table (tgt := 53) ⟨by decide, by decide⟩ dX_stat_6 (fun _ _ => ⟨_, rfl, rfl⟩) (fun z => absurd z (by decide)) ?_
      refine x_aloadn dX_stat_53 rfl ?_
      refine x_getR gX_26 tX_0 rfl dX_stat_54 ?_
      refine x_iloadn dX_stat_57 rfl ?_
      refine x_cvni hf (kDe_layoutOf X.hst) iDe_layoutOf lX_141 tX_16 rfl rfl (by decide) (Nat.le_of_ble_eq_true rfl) dX_stat_58 (fun v11 M10 hf => ?_)
      exact x_iret (rt_x hf) rfl dX_stat_61
    · have n1 := hc
      have hf := hB hc
      obtain ⟨hr, -, hA, hB⟩ := meq_of hf
      clear hf
      by_cases hc : x2 = 2
      · subst hc
        have hf := hA rfl
        refine x_table (tgt := 62) ⟨by decide, by decide⟩ dX_stat_6 (fun _ _ => ⟨_, rfl, rfl⟩) (fun z => absurd z (by decide)) ?_
        refine x_aloadn dX_stat_62 rfl ?_
        refine x_getR gX_26 tX_0 rfl dX_stat_63 ?_
        refine x_iloadn dX_stat_66 rfl ?_
        refine x_cvni hf (kDe_sizeOf X.hst) iDe_sizeOf lX_144 tX_16 rfl rfl (by decide) (Nat.le_of_ble_eq_true rfl) dX_stat_67 (fun v9 M8 hf => ?_)
        exact x_iret (rt_x hf) rfl dX_stat_70
      · have n2 := hc
        have hf := hB hc
        obtain ⟨hr, -, hA, hB⟩ := meq_of hf
        clear hf
        by_cases hc : x2 = 3
        · subst hc
          have hf := hA rfl
          refine x_table (tgt := 71) ⟨by decide, by decide⟩ dX_stat_6 (fun _ _ => ⟨_, rfl, rfl⟩) (fun z => absurd z (by decide)) ?_
          refine x_aloadn dX_stat_71 rfl ?_
          refine x_getR gX_26 tX_0 rfl dX_stat_72 ?_
          refine x_iloadn dX_stat_75 rfl ?_
          refine x_cvni hf (kDe_countOf X.hst) iDe_countOf lX_147 tX_16 rfl rfl (by decide) (Nat.le_of_ble_eq_true rfl) dX_stat_76 (fun v7 M6 hf => ?_)
          exact x_iret (rt_x hf) rfl dX_stat_79
        · have n3 := hc
          have hf := hB hc
          obtain ⟨hr, -, hA, hB⟩ := meq_of hf
          clear hf
          by_cases hc : x2 = 4
          · subst hc
            have hf := hA rfl
            refine x_table (tgt := 80) ⟨by decide, by decide⟩ dX_stat_6 (fun _ _ => ⟨_, rfl, rfl⟩) (fun z => absurd z (by decide)) ?_
            refine x_aloadn dX_stat_80 rfl ?_
            refine x_getR gX_26 tX_0 rfl dX_stat_81 ?_
            refine x_iloadn dX_stat_84 rfl ?_
            refine x_cvni hf (kDe_firstBlockOf X.hst) iDe_firstBlockOf lX_150 tX_16 rfl rfl (by decide) (Nat.le_of_ble_eq_true rfl) dX_stat_85 (fun v5 M4 hf => ?_)
            exact x_iret (rt_x hf) rfl dX_stat_88
          · have n4 := hc
            have hf := hB hc
            obtain ⟨hr, -, hA, hB⟩ := meq_of hf
            clear hf
            by_cases hc : x2 = 5
            · subst hc
              have hf := hA rfl
              refine x_table (tgt := 89) ⟨by decide, by decide⟩ dX_stat_6 (fun _ _ => ⟨_, rfl, rfl⟩) (fun z => absurd z (by decide)) ?_
              refine x_aloadn dX_stat_89 rfl ?_
              refine x_getR gX_26 tX_0 rfl dX_stat_90 ?_
              refine x_iloadn dX_stat_93 rfl ?_
              refine x_cvni hf (kDe_isBad X.hst) iDe_isBad lX_153 tX_16 rfl rfl (by decide) (Nat.le_of_ble_eq_true rfl) dX_stat_94 (fun v3 M2 hf => ?_)
              refine x_eq0 hf dX_stat_97 rfl (fun hf => ?_) (fun hf => ?_)
              · refine x_iconst dX_stat_104 ?_
                exact x_iret (rt_x hf) rfl dX_stat_105
              · refine x_iconst dX_stat_100 ?_
                refine x_goto (tgt := 105) dX_stat_101 rfl ?_
                exact x_iret (rt_x hf) rfl dX_stat_105
            · have n5 := hc
              have hf := hB hc
              refine x_table (tgt := 106) hr dX_stat_6 (fun z1 z2 => by exfalso; omega) (fun _ => rfl) ?_
              exact x_throw (rt_x hf) (by decide) eX_45_47 (by decide) (by decide) ⟨Nat.le_of_ble_eq_true rfl, Nat.le_of_ble_eq_true rfl, Nat.le_of_ble_eq_true rfl, Nat.le_of_ble_eq_true rfl⟩ dX_stat_106 dX_stat_109 dX_stat_110 dX_stat_113
theorem kX_stat {l : Launch} (hl : l.stackTraces = false) {x1 : Int} {x2 : Int} {M : Mm} (w : Nat × Int × Mm) (hf : fX_stat x1 x2 M = some w) : Ct l yX_stat (rmn 8 130) TX mvX false (some .int) [.inr 0, .inl x1, .inl x2] M w := ct_of hl (by decide) iX_stat.1 (Nat.le_of_ble_eq_true rfl) (fun X => wX_stat X hf)
def fX_demandGood (x1 : Int) (M : Mm) : Option (Nat × Int × Mm) :=
  mcn (fDe_isInode x1 M) fun v2 M1 =>
  meq v2 0
    (some (2, 0, M1))
    (mcn (fDe_isBad x1 M1) fun v4 M3 =>
    meq v4 0
      (some (0, 0, M3))
      (some (2, 0, M3)))
set_option maxRecDepth 10000 in
theorem wX_demandGood {r : Nat × Int × Mm} (X : Cy p l e (rmn 6 112) s m args below meth c D aK TX mvX false a0 "PackedImage" cX_demandGood 2 none r) {x1 : Int} {M : Mm} (hf : fX_demandGood x1 M = some r) : Wm X 0 [some (.inr 0), some (.inl x1)] [] M := by
  unfold fX_demandGood at hf
  refine x_aloadn dX_demandGood_0 rfl ?_
  refine x_getR gX_26 tX_0 rfl dX_demandGood_1 ?_
  refine x_iloadn dX_demandGood_4 rfl ?_
  refine x_cvni hf (kDe_isInode X.hst) iDe_isInode lX_194 tX_16 rfl rfl (by decide) (Nat.le_of_ble_eq_true rfl) dX_demandGood_5 (fun v2 M1 hf => ?_)
  refine x_eq0 hf dX_demandGood_8 rfl (fun hf => ?_) (fun hf => ?_)
  · exact x_throw (rt_x hf) (by decide) eX_56_58 (by decide) (by decide) ⟨Nat.le_of_ble_eq_true rfl, Nat.le_of_ble_eq_true rfl, Nat.le_of_ble_eq_true rfl, Nat.le_of_ble_eq_true rfl⟩ dX_demandGood_22 dX_demandGood_25 dX_demandGood_26 dX_demandGood_29
  · refine x_aloadn dX_demandGood_11 rfl ?_
    refine x_getR gX_26 tX_0 rfl dX_demandGood_12 ?_
    refine x_iloadn dX_demandGood_15 rfl ?_
    refine x_cvni hf (kDe_isBad X.hst) iDe_isBad lX_153 tX_16 rfl rfl (by decide) (Nat.le_of_ble_eq_true rfl) dX_demandGood_16 (fun v4 M3 hf => ?_)
    refine x_eq0 hf dX_demandGood_19 rfl (fun hf => ?_) (fun hf => ?_)
    · exact x_vret ⟨_, rt_x hf⟩ rfl dX_demandGood_30
    · exact x_throw (rt_x hf) (by decide) eX_56_58 (by decide) (by decide) ⟨Nat.le_of_ble_eq_true rfl, Nat.le_of_ble_eq_true rfl, Nat.le_of_ble_eq_true rfl, Nat.le_of_ble_eq_true rfl⟩ dX_demandGood_22 dX_demandGood_25 dX_demandGood_26 dX_demandGood_29
theorem kX_demandGood {l : Launch} (hl : l.stackTraces = false) {x1 : Int} {M : Mm} (w : Nat × Int × Mm) (hf : fX_demandGood x1 M = some w) : Ct l yX_demandGood (rmn 6 112) TX mvX false none [.inr 0, .inl x1] M w := ct_of hl (by decide) iX_demandGood.1 (Nat.le_of_ble_eq_true rfl) (fun X => wX_demandGood X hf)
def fDe_dataAt (x1 : Int) (x2 : Int) (M : Mm) : Option (Int × Mm) :=
  mcn (fDe_blocksOf x1 M) fun v2 M1 =>
  mlt x2 (v2 * 16)
    (mcn (fDe_firstBlockOf x1 M1) fun v4 M3 =>
    mcn (fDe_byteAt ((v4 * 16) + x2) M3) fun v6 M5 =>
    some (v6, M5))
    (mcn (fDe_slotByte x1 ((4 + x2) - (v2 * 16)) M1) fun v8 M7 =>
    some (v8, M7))
set_option maxRecDepth 10000 in
theorem wDe_dataAt {v0 : Int} {M9 : Mm} (X : Cy p l e (rmn 3 65) s m args below meth c D aK TX mvX false a0 "PackedImage$Device" cDe_dataAt 4 (some .int) (0, v0, M9)) {x1 : Int} {x2 : Int} {M : Mm} (hf : fDe_dataAt x1 x2 M = some (v0, M9)) : Wm X 0 [some (.inr 16), some (.inl x1), some (.inl x2), none] [] M := by
  unfold fDe_dataAt at hf
  refine x_aloadn dDe_dataAt_0 rfl ?_
  refine x_iloadn dDe_dataAt_1 rfl ?_
  refine x_cvni hf (kDe_blocksOf X.hst) iDe_blocksOf lDe_84 tX_16 rfl rfl (by decide) (Nat.le_of_ble_eq_true rfl) dDe_dataAt_2 (fun v2 M1 hf => ?_)
  refine x_bipush dDe_dataAt_5 (by decide) ?_
  refine x_imul dDe_dataAt_7 ?_
  refine x_istoren dDe_dataAt_8 (by decide) ?_
  refine x_iloadn dDe_dataAt_9 rfl ?_
  refine x_iloadn dDe_dataAt_10 rfl ?_
  refine x_lt hf dDe_dataAt_11 rfl (fun hf => ?_) (fun hf => ?_)
  · refine x_aloadn dDe_dataAt_25 rfl ?_
    refine x_aloadn dDe_dataAt_26 rfl ?_
    refine x_iloadn dDe_dataAt_27 rfl ?_
    refine x_cvni hf (kDe_firstBlockOf X.hst) iDe_firstBlockOf lDe_87 tX_16 rfl rfl (by decide) (Nat.le_of_ble_eq_true rfl) dDe_dataAt_28 (fun v4 M3 hf => ?_)
    refine x_bipush dDe_dataAt_31 (by decide) ?_
    refine x_imul dDe_dataAt_33 ?_
    refine x_iloadn dDe_dataAt_34 rfl ?_
    refine x_iadd dDe_dataAt_35 ?_
    refine x_cvni hf (kDe_byteAt X.hst) iDe_byteAt lDe_102 tX_16 rfl rfl (by decide) (Nat.le_of_ble_eq_true rfl) dDe_dataAt_36 (fun v6 M5 hf => ?_)
    exact x_iret (rt_n hf) rfl dDe_dataAt_39
  · refine x_aloadn dDe_dataAt_14 rfl ?_
    refine x_iloadn dDe_dataAt_15 rfl ?_
    refine x_iconst dDe_dataAt_16 ?_
    refine x_iloadn dDe_dataAt_17 rfl ?_
    refine x_iadd dDe_dataAt_18 ?_
    refine x_iloadn dDe_dataAt_19 rfl ?_
    refine x_isub dDe_dataAt_20 ?_
    refine x_cvni hf (kDe_slotByte X.hst) iDe_slotByte lDe_62 tX_16 rfl rfl (by decide) (Nat.le_of_ble_eq_true rfl) dDe_dataAt_21 (fun v8 M7 hf => ?_)
    exact x_iret (rt_n hf) rfl dDe_dataAt_24
theorem kDe_dataAt {l : Launch} (hl : l.stackTraces = false) {x1 : Int} {x2 : Int} {M : Mm} (v0 : Int) (M9 : Mm) (hf : fDe_dataAt x1 x2 M = some (v0, M9)) : Ct l yDe_dataAt (rmn 3 65) TX mvX false (some .int) [.inr 16, .inl x1, .inl x2] M (0, v0, M9) := ct_of hl (by decide) iDe_dataAt.1 (Nat.le_of_ble_eq_true rfl) (fun X => wDe_dataAt X hf)
end WK
