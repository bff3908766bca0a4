section WK
variable {p : Program} {l : Launch} {e : Env} {s : State} {m : MethodId} {args : Array Value} {below : List Frame} {meth : Method} {c : Code} {D : va_G} {aK : Nat → ClassId} {a0 : Nat → Nat}
def fTr_isNodeOf (x1 : Int) (x2 : Int) (M : Mm) : Option (Int × Mm) :=
  mlt x1 0
    (some (0, M))
    (mlt x1 (M 1 5)
      (mrd M 2 16 x1 fun v1 =>
      meq v1 x2
        (some (1, M))
        (some (0, M)))
      (some (0, M)))
set_option maxRecDepth 10000 in
theorem wTr_isNodeOf {v0 : Int} {M9 : Mm} (X : Cy p l e (rmn 0 0) s m args below meth c D aK TX mvX false a0 "PackedImage$Tree" cTr_isNodeOf 3 (some .boolean) (0, v0, M9)) {x1 : Int} {x2 : Int} {M : Mm} (hf : fTr_isNodeOf x1 x2 M = some (v0, M9)) : Wm X 0 [some (.inr 1), some (.inl x1), some (.inl x2)] [] M := by
  unfold fTr_isNodeOf at hf
  refine x_iloadn dTr_isNodeOf_0 rfl ?_
  refine x_lt0 hf dTr_isNodeOf_1 rfl (fun hf => ?_) (fun hf => ?_)
  · refine x_iconst dTr_isNodeOf_26 ?_
    exact x_zret (rt_n hf) (by decide) rfl dTr_isNodeOf_27
  · refine x_iloadn dTr_isNodeOf_4 rfl ?_
    refine x_aloadn dTr_isNodeOf_5 rfl ?_
    refine x_getI gTr_33 tX_1 rfl dTr_isNodeOf_6 ?_
    refine x_ge hf dTr_isNodeOf_9 rfl (fun hf => ?_) (fun hf => ?_)
    · refine x_iconst dTr_isNodeOf_26 ?_
      exact x_zret (rt_n hf) (by decide) rfl dTr_isNodeOf_27
    · refine x_aloadn dTr_isNodeOf_12 rfl ?_
      refine x_getR gTr_9 tX_1 rfl dTr_isNodeOf_13 ?_
      refine x_iloadn dTr_isNodeOf_16 rfl ?_
      refine x_iald hf tX_2 (by decide) dTr_isNodeOf_17 (fun v1 hf => ?_)
      refine x_iloadn dTr_isNodeOf_18 rfl ?_
      refine x_ne hf dTr_isNodeOf_19 rfl (fun hf => ?_) (fun hf => ?_)
      · refine x_iconst dTr_isNodeOf_26 ?_
        exact x_zret (rt_n hf) (by decide) rfl dTr_isNodeOf_27
      · refine x_iconst dTr_isNodeOf_22 ?_
        refine x_goto (tgt := 27) dTr_isNodeOf_23 rfl ?_
        exact x_zret (rt_n hf) (by decide) rfl dTr_isNodeOf_27
theorem kTr_isNodeOf {l : Launch} (hl : l.stackTraces = false) {x1 : Int} {x2 : Int} {M : Mm} (v0 : Int) (M9 : Mm) (hf : fTr_isNodeOf x1 x2 M = some (v0, M9)) : Ct l yTr_isNodeOf (rmn 0 0) TX mvX false (some .boolean) [.inr 1, .inl x1, .inl x2] M (0, v0, M9) := ct_of hl (by decide) iTr_isNodeOf.1 (Nat.le_of_ble_eq_true rfl) (fun X => wTr_isNodeOf X hf)
def fX_isLetter (x0 : Int) (M : Mm) : Option (Int × Mm) :=
  mlt x0 97
    (some (0, M))
    (mlt 122 x0
      (some (0, M))
      (some (1, M)))
set_option maxRecDepth 10000 in
theorem wX_isLetter {v0 : Int} {M9 : Mm} (X : Cy p l e (rmn 0 0) s m args below meth c D aK TX mvX false a0 "PackedImage" cX_isLetter 1 (some .boolean) (0, v0, M9)) {x0 : Int} {M : Mm} (hf : fX_isLetter x0 M = some (v0, M9)) : Wm X 0 [some (.inl x0)] [] M := by
  unfold fX_isLetter at hf
  refine x_iloadn dX_isLetter_0 rfl ?_
  refine x_bipush dX_isLetter_1 (by decide) ?_
  refine x_lt hf dX_isLetter_3 rfl (fun hf => ?_) (fun hf => ?_)
  · refine x_iconst dX_isLetter_16 ?_
    exact x_zret (rt_n hf) (by decide) rfl dX_isLetter_17
  · refine x_iloadn dX_isLetter_6 rfl ?_
    refine x_bipush dX_isLetter_7 (by decide) ?_
    refine x_gt hf dX_isLetter_9 rfl (fun hf => ?_) (fun hf => ?_)
    · refine x_iconst dX_isLetter_16 ?_
      exact x_zret (rt_n hf) (by decide) rfl dX_isLetter_17
    · refine x_iconst dX_isLetter_12 ?_
      refine x_goto (tgt := 17) dX_isLetter_13 rfl ?_
      exact x_zret (rt_n hf) (by decide) rfl dX_isLetter_17
theorem kX_isLetter {l : Launch} (hl : l.stackTraces = false) {x0 : Int} {M : Mm} (v0 : Int) (M9 : Mm) (hf : fX_isLetter x0 M = some (v0, M9)) : Ct l yX_isLetter (rmn 0 0) TX mvX false (some .boolean) [.inl x0] M (0, v0, M9) := ct_of hl (by decide) iX_isLetter.1 (Nat.le_of_ble_eq_true rfl) (fun X => wX_isLetter X hf)
def fX_demandDirectoryAndLetter (x1 : Int) (x2 : Int) (M : Mm) : Option (Nat × Int × Mm) :=
  mcn (fTr_isNodeOf x1 0 M) fun v2 M1 =>
  meq v2 0
    (some (1, 0, M1))
    (mcn (fX_isLetter x2 M1) fun v4 M3 =>
    meq v4 0
      (some (1, 0, M3))
      (some (0, 0, M3)))
set_option maxRecDepth 10000 in
theorem wX_demandDirectoryAndLetter {r : Nat × Int × Mm} (X : Cy p l e (rmn 6 89) s m args below meth c D aK TX mvX false a0 "PackedImage" cX_demandDirectoryAndLetter 3 none r) {x1 : Int} {x2 : Int} {M : Mm} (hf : fX_demandDirectoryAndLetter x1 x2 M = some r) : Wm X 0 [some (.inr 0), some (.inl x1), some (.inl x2)] [] M := by
  unfold fX_demandDirectoryAndLetter at hf
  refine x_aloadn dX_demandDirectoryAndLetter_0 rfl ?_
  refine x_getR gX_10 tX_0 rfl dX_demandDirectoryAndLetter_1 ?_
  refine x_iloadn dX_demandDirectoryAndLetter_4 rfl ?_
  refine x_iconst dX_demandDirectoryAndLetter_5 ?_
  refine x_cvni hf (kTr_isNodeOf X.hst) iTr_isNodeOf lX_67 tX_1 rfl rfl (by decide) (Nat.le_of_ble_eq_true rfl) dX_demandDirectoryAndLetter_6 (fun v2 M1 hf => ?_)
  refine x_eq0 hf dX_demandDirectoryAndLetter_9 rfl (fun hf => ?_) (fun hf => ?_)
  · exact x_throw (rt_x hf) (by decide) eX_45_47 (by decide) (by decide) ⟨Nat.le_of_ble_eq_true rfl, Nat.le_of_ble_eq_true rfl, Nat.le_of_ble_eq_true rfl, Nat.le_of_ble_eq_true rfl⟩ dX_demandDirectoryAndLetter_19 dX_demandDirectoryAndLetter_22 dX_demandDirectoryAndLetter_23 dX_demandDirectoryAndLetter_26
  · refine x_iloadn dX_demandDirectoryAndLetter_12 rfl ?_
    refine x_csni hf (kX_isLetter X.hst) iX_isLetter lX_82 rfl (by decide) (Nat.le_of_ble_eq_true rfl) dX_demandDirectoryAndLetter_13 (fun v4 M3 hf => ?_)
    refine x_ne0 hf dX_demandDirectoryAndLetter_16 rfl (fun hf => ?_) (fun hf => ?_)
    · exact x_vret ⟨_, rt_x hf⟩ rfl dX_demandDirectoryAndLetter_27
    · exact x_throw (rt_x hf) (by decide) eX_45_47 (by decide) (by decide) ⟨Nat.le_of_ble_eq_true rfl, Nat.le_of_ble_eq_true rfl, Nat.le_of_ble_eq_true rfl, Nat.le_of_ble_eq_true rfl⟩ dX_demandDirectoryAndLetter_19 dX_demandDirectoryAndLetter_22 dX_demandDirectoryAndLetter_23 dX_demandDirectoryAndLetter_26
theorem kX_demandDirectoryAndLetter {l : Launch} (hl : l.stackTraces = false) {x1 : Int} {x2 : Int} {M : Mm} (w : Nat × Int × Mm) (hf : fX_demandDirectoryAndLetter x1 x2 M = some w) : Ct l yX_demandDirectoryAndLetter (rmn 6 89) TX mvX false none [.inr 0, .inl x1, .inl x2] M w := ct_of hl (by decide) iX_demandDirectoryAndLetter.1 (Nat.le_of_ble_eq_true rfl) (fun X => wX_demandDirectoryAndLetter X hf)
def fTr_nodeAt (x1 : Int) (x2 : Int) (M : Mm) : Option (Int × Mm) :=
  mrd M 6 416 ((x1 * 26) + x2) fun v1 =>
  some (v1, M)
set_option maxRecDepth 10000 in
theorem wTr_nodeAt {v0 : Int} {M9 : Mm} (X : Cy p l e (rmn 0 0) s m args below meth c D aK TX mvX false a0 "PackedImage$Tree" cTr_nodeAt 3 (some .int) (0, v0, M9)) {x1 : Int} {x2 : Int} {M : Mm} (hf : fTr_nodeAt x1 x2 M = some (v0, M9)) : Wm X 0 [some (.inr 1), some (.inl x1), some (.inl x2)] [] M := by
  unfold fTr_nodeAt at hf
  refine x_aloadn dTr_nodeAt_0 rfl ?_
  refine x_getR gTr_24 tX_1 rfl dTr_nodeAt_1 ?_
  refine x_iloadn dTr_nodeAt_4 rfl ?_
  refine x_bipush dTr_nodeAt_5 (by decide) ?_
  refine x_imul dTr_nodeAt_7 ?_
  refine x_iloadn dTr_nodeAt_8 rfl ?_
  refine x_iadd dTr_nodeAt_9 ?_
  refine x_iald hf tX_6 (by decide) dTr_nodeAt_10 (fun v1 hf => ?_)
  exact x_iret (rt_n hf) rfl dTr_nodeAt_11
theorem kTr_nodeAt {l : Launch} (hl : l.stackTraces = false) {x1 : Int} {x2 : Int} {M : Mm} (v0 : Int) (M9 : Mm) (hf : fTr_nodeAt x1 x2 M = some (v0, M9)) : Ct l yTr_nodeAt (rmn 0 0) TX mvX false (some .int) [.inr 1, .inl x1, .inl x2] M (0, v0, M9) := ct_of hl (by decide) iTr_nodeAt.1 (Nat.le_of_ble_eq_true rfl) (fun X => wTr_nodeAt X hf)
def fX_demandFreeName (x1 : Int) (x2 : Int) (M : Mm) : Option (Nat × Int × Mm) :=
  mcx (fX_demandDirectoryAndLetter x1 x2 M) fun _ M1 =>
  mcn (fTr_nodeAt x1 (x2 - 97) M1) fun v3 M2 =>
  meq v3 (-1)
    (some (0, 0, M2))
    (some (1, 0, M2))
set_option maxRecDepth 10000 in
theorem wX_demandFreeName {r : Nat × Int × Mm} (X : Cy p l e (rmn 7 111) s m args below meth c D aK TX mvX false a0 "PackedImage" cX_demandFreeName 3 none r) {x1 : Int} {x2 : Int} {M : Mm} (hf : fX_demandFreeName x1 x2 M = some r) : Wm X 0 [some (.inr 0), some (.inl x1), some (.inl x2)] [] M := by
  unfold fX_demandFreeName at hf
  refine x_aloadn dX_demandFreeName_0 rfl ?_
  refine x_iloadn dX_demandFreeName_1 rfl ?_
  refine x_iloadn dX_demandFreeName_2 rfl ?_
  refine x_cvxv hf (kX_demandDirectoryAndLetter X.hst) iX_demandDirectoryAndLetter lX_71 tX_0 rfl rfl (by decide) (Nat.le_of_ble_eq_true rfl) dX_demandFreeName_3 (fun _ M1 hf => ?_)
  refine x_aloadn dX_demandFreeName_6 rfl ?_
  refine x_getR gX_10 tX_0 rfl dX_demandFreeName_7 ?_
  refine x_iloadn dX_demandFreeName_10 rfl ?_
  refine x_iloadn dX_demandFreeName_11 rfl ?_
  refine x_bipush dX_demandFreeName_12 (by decide) ?_
  refine x_isub dX_demandFreeName_14 ?_
  refine x_cvni hf (kTr_nodeAt X.hst) iTr_nodeAt lX_74 tX_1 rfl rfl (by decide) (Nat.le_of_ble_eq_true rfl) dX_demandFreeName_15 (fun v3 M2 hf => ?_)
  refine x_iconst dX_demandFreeName_18 ?_
  refine x_eq hf dX_demandFreeName_19 rfl (fun hf => ?_) (fun hf => ?_)
  · exact x_vret ⟨_, rt_x hf⟩ rfl dX_demandFreeName_30
  · exact x_throw (rt_x hf) (by decide) eX_45_47 (by decide) (by decide) ⟨Nat.le_of_ble_eq_true rfl, Nat.le_of_ble_eq_true rfl, Nat.le_of_ble_eq_true rfl, Nat.le_of_ble_eq_true rfl⟩ dX_demandFreeName_22 dX_demandFreeName_25 dX_demandFreeName_26 dX_demandFreeName_29
theorem kX_demandFreeName {l : Launch} (hl : l.stackTraces = false) {x1 : Int} {x2 : Int} {M : Mm} (w : Nat × Int × Mm) (hf : fX_demandFreeName x1 x2 M = some w) : Ct l yX_demandFreeName (rmn 7 111) TX mvX false none [.inr 0, .inl x1, .inl x2] M w := ct_of hl (by decide) iX_demandFreeName.1 (Nat.le_of_ble_eq_true rfl) (fun X => wX_demandFreeName X hf)
def fTr_isFull (M : Mm) : Option (Int × Mm) :=
  mlt (M 1 5) 16
    (some (0, M))
    (some (1, M))
set_option maxRecDepth 10000 in
theorem wTr_isFull {v0 : Int} {M9 : Mm} (X : Cy p l e (rmn 0 0) s m args below meth c D aK TX mvX false a0 "PackedImage$Tree" cTr_isFull 1 (some .boolean) (0, v0, M9)) {M : Mm} (hf : fTr_isFull M = some (v0, M9)) : Wm X 0 [some (.inr 1)] [] M := by
  unfold fTr_isFull at hf
  refine x_aloadn dTr_isFull_0 rfl ?_
  refine x_getI gTr_33 tX_1 rfl dTr_isFull_1 ?_
  refine x_bipush dTr_isFull_4 (by decide) ?_
  refine x_lt hf dTr_isFull_6 rfl (fun hf => ?_) (fun hf => ?_)
  · refine x_iconst dTr_isFull_13 ?_
    exact x_zret (rt_n hf) (by decide) rfl dTr_isFull_14
  · refine x_iconst dTr_isFull_9 ?_
    refine x_goto (tgt := 14) dTr_isFull_10 rfl ?_
    exact x_zret (rt_n hf) (by decide) rfl dTr_isFull_14
theorem kTr_isFull {l : Launch} (hl : l.stackTraces = false) {M : Mm} (v0 : Int) (M9 : Mm) (hf : fTr_isFull M = some (v0, M9)) : Ct l yTr_isFull (rmn 0 0) TX mvX false (some .boolean) [.inr 1] M (0, v0, M9) := ct_of hl (by decide) iTr_isFull.1 (Nat.le_of_ble_eq_true rfl) (fun X => wTr_isFull X hf)
def fTr_newNode (x1 : Int) (M : Mm) : Option (Int × Mm) :=
  mwr M 2 16 (M 1 5) x1 fun M1 =>
  mput M1 1 5 ((M1 1 5) + 1) fun M2 =>
  some ((M 1 5), M2)
set_option maxRecDepth 10000 in
theorem wTr_newNode {v0 : Int} {M9 : Mm} (X : Cy p l e (rmn 0 0) s m args below meth c D aK TX mvX false a0 "PackedImage$Tree" cTr_newNode 3 (some .int) (0, v0, M9)) {x1 : Int} {M : Mm} (hf : fTr_newNode x1 M = some (v0, M9)) : Wm X 0 [some (.inr 1), some (.inl x1), none] [] M := by
  unfold fTr_newNode at hf
  refine x_aloadn dTr_newNode_0 rfl ?_
  refine x_getI gTr_33 tX_1 rfl dTr_newNode_1 ?_
  refine x_istoren dTr_newNode_4 (by decide) ?_
  refine x_aloadn dTr_newNode_5 rfl ?_
  refine x_getR gTr_9 tX_1 rfl dTr_newNode_6 ?_
  refine x_iloadn dTr_newNode_9 rfl ?_
  refine x_iloadn dTr_newNode_10 rfl ?_
  refine x_iast hf tX_2 (by decide) dTr_newNode_11 (fun M1 hf => ?_)
  refine x_aloadn dTr_newNode_12 rfl ?_
  refine x_dup dTr_newNode_13 ?_
  refine x_getI gTr_33 tX_1 rfl dTr_newNode_14 ?_
  refine x_iconst dTr_newNode_17 ?_
  refine x_iadd dTr_newNode_18 ?_
  refine x_put hf gTr_33 pTr_5 tX_1 rfl dTr_newNode_19 (fun M2 hf => ?_)
  refine x_iloadn dTr_newNode_22 rfl ?_
  exact x_iret (rt_n hf) rfl dTr_newNode_23
theorem kTr_newNode {l : Launch} (hl : l.stackTraces = false) {x1 : Int} {M : Mm} (v0 : Int) (M9 : Mm) (hf : fTr_newNode x1 M = some (v0, M9)) : Ct l yTr_newNode (rmn 0 0) TX mvX false (some .int) [.inr 1, .inl x1] M (0, v0, M9) := ct_of hl (by decide) iTr_newNode.1 (Nat.le_of_ble_eq_true rfl) (fun X => wTr_newNode X hf)
def fTr_enter (x1 : Int) (x2 : Int) (x3 : Int) (M : Mm) : Option (Int × Mm) :=
  mwr M 6 416 ((x1 * 26) + x2) x3 fun M1 =>
  mrd M1 3 16 x3 fun v2 =>
  mwr M1 3 16 x3 (v2 + 1) fun M3 =>
  some (0, M3)
set_option maxRecDepth 10000 in
theorem wTr_enter {v0 : Int} {M9 : Mm} (X : Cy p l e (rmn 0 0) s m args below meth c D aK TX mvX false a0 "PackedImage$Tree" cTr_enter 4 none (0, v0, M9)) {x1 : Int} {x2 : Int} {x3 : Int} {M : Mm} (hf : fTr_enter x1 x2 x3 M = some (v0, M9)) : Wm X 0 [some (.inr 1), some (.inl x1), some (.inl x2), some (.inl x3)] [] M := by
  unfold fTr_enter at hf
  refine x_aloadn dTr_enter_0 rfl ?_
  refine x_getR gTr_24 tX_1 rfl dTr_enter_1 ?_
  refine x_iloadn dTr_enter_4 rfl ?_
  refine x_bipush dTr_enter_5 (by decide) ?_
  refine x_imul dTr_enter_7 ?_
  refine x_iloadn dTr_enter_8 rfl ?_
  refine x_iadd dTr_enter_9 ?_
  refine x_iloadn dTr_enter_10 rfl ?_
  refine x_iast hf tX_6 (by decide) dTr_enter_11 (fun M1 hf => ?_)
  refine x_aloadn dTr_enter_12 rfl ?_
  refine x_getR gTr_15 tX_1 rfl dTr_enter_13 ?_
  refine x_iloadn dTr_enter_16 rfl ?_
  refine x_dup2 dTr_enter_17 ?_
  refine x_iald hf tX_3 (by decide) dTr_enter_18 (fun v2 hf => ?_)
  refine x_iconst dTr_enter_19 ?_
  refine x_iadd dTr_enter_20 ?_
  refine x_iast hf tX_3 (by decide) dTr_enter_21 (fun M3 hf => ?_)
  exact x_vret ⟨_, rt_n hf⟩ rfl dTr_enter_22
theorem kTr_enter {l : Launch} (hl : l.stackTraces = false) {x1 : Int} {x2 : Int} {x3 : Int} {M : Mm} (v0 : Int) (M9 : Mm) (hf : fTr_enter x1 x2 x3 M = some (v0, M9)) : Ct l yTr_enter (rmn 0 0) TX mvX false none [.inr 1, .inl x1, .inl x2, .inl x3] M (0, v0, M9) := ct_of hl (by decide) iTr_enter.1 (Nat.le_of_ble_eq_true rfl) (fun X => wTr_enter X hf)
def fX_create (x1 : Int) (x2 : Int) (x3 : Int) (M : Mm) : Option (Nat × Int × Mm) :=
  mlt x1 0
    (some (1, 0, M))
    (mlt 2 x1
      (some (1, 0, M))
      (mcx (fX_demandFreeName x2 x3 M) fun _ M1 =>
      mcn (fTr_isFull M1) fun v3 M2 =>
      meq v3 0
        (mcn (fTr_newNode x1 M2) fun v5 M4 =>
        mcn (fTr_enter x2 (x3 - 97) v5 M4) fun _ M6 =>
        some (0, v5, M6))
        (some (2, 0, M2))))
set_option maxRecDepth 10000 in
theorem wX_create {r : Nat × Int × Mm} (X : Cy p l e (rmn 8 133) s m args below meth c D aK TX mvX false a0 "PackedImage" cX_create 5 (some .int) r) {x1 : Int} {x2 : Int} {x3 : Int} {M : Mm} (hf : fX_create x1 x2 x3 M = some r) : Wm X 0 [some (.inr 0), some (.inl x1), some (.inl x2), some (.inl x3), none] [] M := by
  unfold fX_create at hf
  refine x_iloadn dX_create_0 rfl ?_
  refine x_lt0 hf dX_create_1 rfl (fun hf => ?_) (fun hf => ?_)
  · exact x_throw (rt_x hf) (by decide) eX_45_47 (by decide) (by decide) ⟨Nat.le_of_ble_eq_true rfl, Nat.le_of_ble_eq_true rfl, Nat.le_of_ble_eq_true rfl, Nat.le_of_ble_eq_true rfl⟩ dX_create_9 dX_create_12 dX_create_13 dX_create_16
  · refine x_iloadn dX_create_4 rfl ?_
    refine x_iconst dX_create_5 ?_
    refine x_le hf dX_create_6 rfl (fun hf => ?_) (fun hf => ?_)
    · refine x_aloadn dX_create_17 rfl ?_
      refine x_iloadn dX_create_18 rfl ?_
      refine x_iloadn dX_create_19 rfl ?_
      refine x_cvxv hf (kX_demandFreeName X.hst) iX_demandFreeName lX_48 tX_0 rfl rfl (by decide) (Nat.le_of_ble_eq_true rfl) dX_create_20 (fun _ M1 hf => ?_)
      refine x_aloadn dX_create_23 rfl ?_
      refine x_getR gX_10 tX_0 rfl dX_create_24 ?_
      refine x_cvni hf (kTr_isFull X.hst) iTr_isFull lX_52 tX_1 rfl rfl (by decide) (Nat.le_of_ble_eq_true rfl) dX_create_27 (fun v3 M2 hf => ?_)
      refine x_eq0 hf dX_create_30 rfl (fun hf => ?_) (fun hf => ?_)
      · refine x_aloadn dX_create_41 rfl ?_
        refine x_getR gX_10 tX_0 rfl dX_create_42 ?_
        refine x_iloadn dX_create_45 rfl ?_
        refine x_cvni hf (kTr_newNode X.hst) iTr_newNode lX_59 tX_1 rfl rfl (by decide) (Nat.le_of_ble_eq_true rfl) dX_create_46 (fun v5 M4 hf => ?_)
        refine x_istore dX_create_49 (by decide) ?_
        refine x_aloadn dX_create_51 rfl ?_
        refine x_getR gX_10 tX_0 rfl dX_create_52 ?_
        refine x_iloadn dX_create_55 rfl ?_
        refine x_iloadn dX_create_56 rfl ?_
        refine x_bipush dX_create_57 (by decide) ?_
        refine x_isub dX_create_59 ?_
        refine x_iload dX_create_60 rfl ?_
        refine x_cvnv hf (kTr_enter X.hst) iTr_enter lX_63 tX_1 rfl rfl (by decide) (Nat.le_of_ble_eq_true rfl) dX_create_62 (fun _ M6 hf => ?_)
        refine x_iload dX_create_65 rfl ?_
        exact x_iret (rt_x hf) rfl dX_create_67
      · exact x_throw (rt_x hf) (by decide) eX_56_58 (by decide) (by decide) ⟨Nat.le_of_ble_eq_true rfl, Nat.le_of_ble_eq_true rfl, Nat.le_of_ble_eq_true rfl, Nat.le_of_ble_eq_true rfl⟩ dX_create_33 dX_create_36 dX_create_37 dX_create_40
    · exact x_throw (rt_x hf) (by decide) eX_45_47 (by decide) (by decide) ⟨Nat.le_of_ble_eq_true rfl, Nat.le_of_ble_eq_true rfl, Nat.le_of_ble_eq_true rfl, Nat.le_of_ble_eq_true rfl⟩ dX_create_9 dX_create_12 dX_create_13 dX_create_16
theorem kX_create {l : Launch} (hl : l.stackTraces = false) {x1 : Int} {x2 : Int} {x3 : Int} {M : Mm} (w : Nat × Int × Mm) (hf : fX_create x1 x2 x3 M = some w) : Ct l yX_create (rmn 8 133) TX mvX false (some .int) [.inr 0, .inl x1, .inl x2, .inl x3] M w := ct_of hl (by decide) iX_create.1 (Nat.le_of_ble_eq_true rfl) (fun X => wX_create X hf)
def fX_link (x1 : Int) (x2 : Int) (x3 : Int) (M : Mm) : Option (Nat × Int × Mm) :=
  mcn (fTr_isNodeOf x1 1 M) fun v2 M1 =>
  meq v2 0
    (some (1, 0, M1))
    (mcx (fX_demandFreeName x2 x3 M1) fun _ M3 =>
    mcn (fTr_enter x2 (x3 - 97) x1 M3) fun _ M4 =>
    some (0, 0, M4))
set_option maxRecDepth 10000 in
theorem wX_link {r : Nat × Int × Mm} (X : Cy p l e (rmn 8 133) s m args below meth c D aK TX mvX false a0 "PackedImage" cX_link 4 none r) {x1 : Int} {x2 : Int} {x3 : Int} {M : Mm} (hf : fX_link x1 x2 x3 M = some r) : Wm X 0 [some (.inr 0), some (.inl x1), some (.inl x2), some (.inl x3)] [] M := by
  unfold fX_link at hf
  refine x_aloadn dX_link_0 rfl ?_
  refine x_getR gX_10 tX_0 rfl dX_link_1 ?_
  refine x_iloadn dX_link_4 rfl ?_
  refine x_iconst dX_link_5 ?_
  refine x_cvni hf (kTr_isNodeOf X.hst) iTr_isNodeOf lX_67 tX_1 rfl rfl (by decide) (Nat.le_of_ble_eq_true rfl) dX_link_6 (fun v2 M1 hf => ?_)
  refine x_ne0 hf dX_link_9 rfl (fun hf => ?_) (fun hf => ?_)
  · refine x_aloadn dX_link_20 rfl ?_
    refine x_iloadn dX_link_21 rfl ?_
    refine x_iloadn dX_link_22 rfl ?_
    refine x_cvxv hf (kX_demandFreeName X.hst) iX_demandFreeName lX_48 tX_0 rfl rfl (by decide) (Nat.le_of_ble_eq_true rfl) dX_link_23 (fun _ M3 hf => ?_)
    refine x_aloadn dX_link_26 rfl ?_
    refine x_getR gX_10 tX_0 rfl dX_link_27 ?_
    refine x_iloadn dX_link_30 rfl ?_
    refine x_iloadn dX_link_31 rfl ?_
    refine x_bipush dX_link_32 (by decide) ?_
    refine x_isub dX_link_34 ?_
    refine x_iloadn dX_link_35 rfl ?_
    refine x_cvnv hf (kTr_enter X.hst) iTr_enter lX_63 tX_1 rfl rfl (by decide) (Nat.le_of_ble_eq_true rfl) dX_link_36 (fun _ M4 hf => ?_)
    exact x_vret ⟨_, rt_x hf⟩ rfl dX_link_39
  · exact x_throw (rt_x hf) (by decide) eX_45_47 (by decide) (by decide) ⟨Nat.le_of_ble_eq_true rfl, Nat.le_of_ble_eq_true rfl, Nat.le_of_ble_eq_true rfl, Nat.le_of_ble_eq_true rfl⟩ dX_link_12 dX_link_15 dX_link_16 dX_link_19
theorem kX_link {l : Launch} (hl : l.stackTraces = false) {x1 : Int} {x2 : Int} {x3 : Int} {M : Mm} (w : Nat × Int × Mm) (hf : fX_link x1 x2 x3 M = some w) : Ct l yX_link (rmn 8 133) TX mvX false none [.inr 0, .inl x1, .inl x2, .inl x3] M w := ct_of hl (by decide) iX_link.1 (Nat.le_of_ble_eq_true rfl) (fun X => wX_link X hf)
def fTr_leave (x1 : Int) (x2 : Int) (M : Mm) : Option (Int × Mm) :=
  mcn (fTr_nodeAt x1 x2 M) fun v2 M1 =>
  mrd M1 3 16 v2 fun v3 =>
  mwr M1 3 16 v2 (v3 - 1) fun M4 =>
  mwr M4 6 416 ((x1 * 26) + x2) (-1) fun M5 =>
  some (0, M5)
set_option maxRecDepth 10000 in
theorem wTr_leave {v0 : Int} {M9 : Mm} (X : Cy p l e (rmn 1 22) s m args below meth c D aK TX mvX false a0 "PackedImage$Tree" cTr_leave 3 none (0, v0, M9)) {x1 : Int} {x2 : Int} {M : Mm} (hf : fTr_leave x1 x2 M = some (v0, M9)) : Wm X 0 [some (.inr 1), some (.inl x1), some (.inl x2)] [] M := by
  unfold fTr_leave at hf
  refine x_aloadn dTr_leave_0 rfl ?_
  refine x_getR gTr_15 tX_1 rfl dTr_leave_1 ?_
  refine x_aloadn dTr_leave_4 rfl ?_
  refine x_iloadn dTr_leave_5 rfl ?_
  refine x_iloadn dTr_leave_6 rfl ?_
  refine x_cvni hf (kTr_nodeAt X.hst) iTr_nodeAt lTr_37 tX_1 rfl rfl (by decide) (Nat.le_of_ble_eq_true rfl) dTr_leave_7 (fun v2 M1 hf => ?_)
  refine x_dup2 dTr_leave_10 ?_
  refine x_iald hf tX_3 (by decide) dTr_leave_11 (fun v3 hf => ?_)
  refine x_iconst dTr_leave_12 ?_
  refine x_isub dTr_leave_13 ?_
  refine x_iast hf tX_3 (by decide) dTr_leave_14 (fun M4 hf => ?_)
  refine x_aloadn dTr_leave_15 rfl ?_
  refine x_getR gTr_24 tX_1 rfl dTr_leave_16 ?_
  refine x_iloadn dTr_leave_19 rfl ?_
  refine x_bipush dTr_leave_20 (by decide) ?_
  refine x_imul dTr_leave_22 ?_
  refine x_iloadn dTr_leave_23 rfl ?_
  refine x_iadd dTr_leave_24 ?_
  refine x_iconst dTr_leave_25 ?_
  refine x_iast hf tX_6 (by decide) dTr_leave_26 (fun M5 hf => ?_)
  exact x_vret ⟨_, rt_n hf⟩ rfl dTr_leave_27
theorem kTr_leave {l : Launch} (hl : l.stackTraces = false) {x1 : Int} {x2 : Int} {M : Mm} (v0 : Int) (M9 : Mm) (hf : fTr_leave x1 x2 M = some (v0, M9)) : Ct l yTr_leave (rmn 1 22) TX mvX false none [.inr 1, .inl x1, .inl x2] M (0, v0, M9) := ct_of hl (by decide) iTr_leave.1 (Nat.le_of_ble_eq_true rfl) (fun X => wTr_leave X hf)
def fX_unlink (x1 : Int) (x2 : Int) (M : Mm) : Option (Nat × Int × Mm) :=
  mcx (fX_demandDirectoryAndLetter x1 x2 M) fun _ M1 =>
  mcn (fTr_nodeAt x1 (x2 - 97) M1) fun v3 M2 =>
  mcn (fTr_isNodeOf v3 1 M2) fun v5 M4 =>
  meq v5 0
    (some (1, 0, M4))
    (mcn (fTr_leave x1 (x2 - 97) M4) fun _ M6 =>
    some (0, 0, M6))
set_option maxRecDepth 10000 in
theorem wX_unlink {r : Nat × Int × Mm} (X : Cy p l e (rmn 7 111) s m args below meth c D aK TX mvX false a0 "PackedImage" cX_unlink 3 none r) {x1 : Int} {x2 : Int} {M : Mm} (hf : fX_unlink x1 x2 M = some r) : Wm X 0 [some (.inr 0), some (.inl x1), some (.inl x2)] [] M := by
  unfold fX_unlink at hf
  refine x_aloadn dX_unlink_0 rfl ?_
  refine x_iloadn dX_unlink_1 rfl ?_
  refine x_iloadn dX_unlink_2 rfl ?_
  refine x_cvxv hf (kX_demandDirectoryAndLetter X.hst) iX_demandDirectoryAndLetter lX_71 tX_0 rfl rfl (by decide) (Nat.le_of_ble_eq_true rfl) dX_unlink_3 (fun _ M1 hf => ?_)
  refine x_aloadn dX_unlink_6 rfl ?_
  refine x_getR gX_10 tX_0 rfl dX_unlink_7 ?_
  refine x_aloadn dX_unlink_10 rfl ?_
  refine x_getR gX_10 tX_0 rfl dX_unlink_11 ?_
  refine x_iloadn dX_unlink_14 rfl ?_
  refine x_iloadn dX_unlink_15 rfl ?_
  refine x_bipush dX_unlink_16 (by decide) ?_
  refine x_isub dX_unlink_18 ?_
  refine x_cvni hf (kTr_nodeAt X.hst) iTr_nodeAt lX_74 tX_1 rfl rfl (by decide) (Nat.le_of_ble_eq_true rfl) dX_unlink_19 (fun v3 M2 hf => ?_)
  refine x_iconst dX_unlink_22 ?_
  refine x_cvni hf (kTr_isNodeOf X.hst) iTr_isNodeOf lX_67 tX_1 rfl rfl (by decide) (Nat.le_of_ble_eq_true rfl) dX_unlink_23 (fun v5 M4 hf => ?_)
  refine x_ne0 hf dX_unlink_26 rfl (fun hf => ?_) (fun hf => ?_)
  · refine x_aloadn dX_unlink_37 rfl ?_
    refine x_getR gX_10 tX_0 rfl dX_unlink_38 ?_
    refine x_iloadn dX_unlink_41 rfl ?_
    refine x_iloadn dX_unlink_42 rfl ?_
    refine x_bipush dX_unlink_43 (by decide) ?_
    refine x_isub dX_unlink_45 ?_
    refine x_cvnv hf (kTr_leave X.hst) iTr_leave lX_78 tX_1 rfl rfl (by decide) (Nat.le_of_ble_eq_true rfl) dX_unlink_46 (fun _ M6 hf => ?_)
    exact x_vret ⟨_, rt_x hf⟩ rfl dX_unlink_49
  · exact x_throw (rt_x hf) (by decide) eX_45_47 (by decide) (by decide) ⟨Nat.le_of_ble_eq_true rfl, Nat.le_of_ble_eq_true rfl, Nat.le_of_ble_eq_true rfl, Nat.le_of_ble_eq_true rfl⟩ dX_unlink_29 dX_unlink_32 dX_unlink_33 dX_unlink_36
theorem kX_unlink {l : Launch} (hl : l.stackTraces = false) {x1 : Int} {x2 : Int} {M : Mm} (w : Nat × Int × Mm) (hf : fX_unlink x1 x2 M = some w) : Ct l yX_unlink (rmn 7 111) TX mvX false none [.inr 0, .inl x1, .inl x2] M w := ct_of hl (by decide) iX_unlink.1 (Nat.le_of_ble_eq_true rfl) (fun X => wX_unlink X hf)
def fTr_contentSize (x1 : Int) (M : Mm) : Option (Int × Mm) :=
  mrd M 4 16 x1 fun v1 =>
  some (v1, M)
set_option maxRecDepth 10000 in
theorem wTr_contentSize {v0 : Int} {M9 : Mm} (X : Cy p l e (rmn 0 0) s m args below meth c D aK TX mvX false a0 "PackedImage$Tree" cTr_contentSize 2 (some .int) (0, v0, M9)) {x1 : Int} {M : Mm} (hf : fTr_contentSize x1 M = some (v0, M9)) : Wm X 0 [some (.inr 1), some (.inl x1)] [] M := by
  unfold fTr_contentSize at hf
  refine x_aloadn dTr_contentSize_0 rfl ?_
  refine x_getR gTr_18 tX_1 rfl dTr_contentSize_1 ?_
  refine x_iloadn dTr_contentSize_4 rfl ?_
  refine x_iald hf tX_4 (by decide) dTr_contentSize_5 (fun v1 hf => ?_)
  exact x_iret (rt_n hf) rfl dTr_contentSize_6
theorem kTr_contentSize {l : Launch} (hl : l.stackTraces = false) {x1 : Int} {M : Mm} (v0 : Int) (M9 : Mm) (hf : fTr_contentSize x1 M = some (v0, M9)) : Ct l yTr_contentSize (rmn 0 0) TX mvX false (some .int) [.inr 1, .inl x1] M (0, v0, M9) := ct_of hl (by decide) iTr_contentSize.1 (Nat.le_of_ble_eq_true rfl) (fun X => wTr_contentSize X hf)
def fTr_extend (x1 : Int) (x2 : Int) (M : Mm) : Option (Int × Mm) :=
  mrd M 4 16 x1 fun v1 =>
  mwr M 5 960 ((x1 * 60) + v1) x2 fun M2 =>
  mrd M2 4 16 x1 fun v3 =>
  mwr M2 4 16 x1 (v3 + 1) fun M4 =>
  mrd M4 4 16 x1 fun v5 =>
  some (v5, M4)
set_option maxRecDepth 10000 in
theorem wTr_extend {v0 : Int} {M9 : Mm} (X : Cy p l e (rmn 0 0) s m args below meth c D aK TX mvX false a0 "PackedImage$Tree" cTr_extend 3 (some .int) (0, v0, M9)) {x1 : Int} {x2 : Int} {M : Mm} (hf : fTr_extend x1 x2 M = some (v0, M9)) : Wm X 0 [some (.inr 1), some (.inl x1), some (.inl x2)] [] M := by
  unfold fTr_extend at hf
  refine x_aloadn dTr_extend_0 rfl ?_
  refine x_getR gTr_21 tX_1 rfl dTr_extend_1 ?_
  refine x_iloadn dTr_extend_4 rfl ?_
  refine x_bipush dTr_extend_5 (by decide) ?_
  refine x_imul dTr_extend_7 ?_
  refine x_aloadn dTr_extend_8 rfl ?_
  refine x_getR gTr_18 tX_1 rfl dTr_extend_9 ?_
  refine x_iloadn dTr_extend_12 rfl ?_
  refine x_iald hf tX_4 (by decide) dTr_extend_13 (fun v1 hf => ?_)
  refine x_iadd dTr_extend_14 ?_
  refine x_iloadn dTr_extend_15 rfl ?_
  refine x_iast hf tX_5 (by decide) dTr_extend_16 (fun M2 hf => ?_)
  refine x_aloadn dTr_extend_17 rfl ?_
  refine x_getR gTr_18 tX_1 rfl dTr_extend_18 ?_
  refine x_iloadn dTr_extend_21 rfl ?_
  refine x_dup2 dTr_extend_22 ?_
  refine x_iald hf tX_4 (by decide) dTr_extend_23 (fun v3 hf => ?_)
  refine x_iconst dTr_extend_24 ?_
  refine x_iadd dTr_extend_25 ?_
  refine x_iast hf tX_4 (by decide) dTr_extend_26 (fun M4 hf => ?_)
  refine x_aloadn dTr_extend_27 rfl ?_
  refine x_getR gTr_18 tX_1 rfl dTr_extend_28 ?_
  refine x_iloadn dTr_extend_31 rfl ?_
  refine x_iald hf tX_4 (by decide) dTr_extend_32 (fun v5 hf => ?_)
  exact x_iret (rt_n hf) rfl dTr_extend_33
theorem kTr_extend {l : Launch} (hl : l.stackTraces = false) {x1 : Int} {x2 : Int} {M : Mm} (v0 : Int) (M9 : Mm) (hf : fTr_extend x1 x2 M = some (v0, M9)) : Ct l yTr_extend (rmn 0 0) TX mvX false (some .int) [.inr 1, .inl x1, .inl x2] M (0, v0, M9) := ct_of hl (by decide) iTr_extend.1 (Nat.le_of_ble_eq_true rfl) (fun X => wTr_extend X hf)
def fX_append_90 (y1 y2 z0 z1 : Int) (M : Mm) : Option (Nat × Int × Mm) :=
  mlt z0 z1
    (mcn (fTr_extend y1 y2 M) fun v8 M7 =>
    some (0, v8, M7))
    (some (2, 0, M))
def fX_append_72 (y1 y2 y3 : Int) (M : Mm) : Option (Nat × Int × Mm) :=
  mcn (fTr_contentSize y1 M) fun v6 M5 =>
  meq y3 0
    (fX_append_90 y1 y2 v6 4 M5)
    (fX_append_90 y1 y2 v6 60 M5)
def fX_append_53 (y1 y2 y3 z0 : Int) (M : Mm) : Option (Nat × Int × Mm) :=
  meq y3 0
    (meq z0 0
      (some (1, 0, M))
      (fX_append_72 y1 y2 y3 M))
    (fX_append_72 y1 y2 y3 M)
def fX_append_52 (y1 y2 y3 : Int) (M : Mm) : Option (Nat × Int × Mm) :=
  fX_append_53 y1 y2 y3 0 M
def fX_append_28 (y1 y2 z0 : Int) (M : Mm) : Option (Nat × Int × Mm) :=
  mcn (fTr_isNodeOf y1 2 M) fun v4 M3 =>
  meq v4 0
    (fX_append_52 y1 y2 z0 M3)
    (mcn (fX_isLetter y2 M3) fun v10 M9 =>
    meq v10 0
      (fX_append_52 y1 y2 z0 M9)
      (fX_append_53 y1 y2 z0 1 M9))
def fX_append_27 (y1 y2 : Int) (M : Mm) : Option (Nat × Int × Mm) :=
  fX_append_28 y1 y2 0 M
def fX_append (x1 : Int) (x2 : Int) (M : Mm) : Option (Nat × Int × Mm) :=
  mcn (fTr_isNodeOf x1 1 M) fun v2 M1 =>
  meq v2 0
    (fX_append_27 x1 x2 M1)
    (mlt x2 0
      (fX_append_27 x1 x2 M1)
      (mlt 255 x2
        (fX_append_27 x1 x2 M1)
        (fX_append_28 x1 x2 1 M1)))
set_option maxRecDepth 10000 in
theorem wX_append_90 {r : Nat × Int × Mm} (X : Cy p l e (rmn 6 89) s m args below meth c D aK TX mvX false a0 "PackedImage" cX_append 5 (some .int) r) : ∀ (y1 : Int) (y2 : Int) (z0 : Int) (z1 : Int) (M : Mm), fX_append_90 y1 y2 z0 z1 M = some r → Wm X 90 [some (.inr 0), some (.inl y1), some (.inl y2), none, none] [.inl z1, .inl z0] M := by
  intro y1 y2 z0 z1 M hf
  unfold fX_append_90 at hf
  refine x_lt hf dX_append_90 rfl (fun hf => ?_) (fun hf => ?_)
  · refine x_aloadn dX_append_101 rfl ?_
    refine x_getR gX_10 tX_0 rfl dX_append_102 ?_
    refine x_iloadn dX_append_105 rfl ?_
    refine x_iloadn dX_append_106 rfl ?_
    refine x_cvni hf (kTr_extend X.hst) iTr_extend lX_89 tX_1 rfl rfl (by decide) (Nat.le_of_ble_eq_true rfl) dX_append_107 (fun v8 M7 hf => ?_)
    exact x_iret (rt_x hf) rfl dX_append_110
  · exact x_throw (rt_x hf) (by decide) eX_56_58 (by decide) (by decide) ⟨Nat.le_of_ble_eq_true rfl, Nat.le_of_ble_eq_true rfl, Nat.le_of_ble_eq_true rfl, Nat.le_of_ble_eq_true rfl⟩ dX_append_93 dX_append_96 dX_append_97 dX_append_100
set_option maxRecDepth 10000 in
theorem wX_append_72 {r : Nat × Int × Mm} (X : Cy p l e (rmn 6 89) s m args below meth c D aK TX mvX false a0 "PackedImage" cX_append 5 (some .int) r) : ∀ (y1 : Int) (y2 : Int) (y3 : Int) (M : Mm), fX_append_72 y1 y2 y3 M = some r → Wm X 72 [some (.inr 0), some (.inl y1), some (.inl y2), some (.inl y3), none] [] M := by
  intro y1 y2 y3 M hf
  unfold fX_append_72 at hf
  refine x_aloadn dX_append_72 rfl ?_
  refine x_getR gX_10 tX_0 rfl dX_append_73 ?_
  refine x_iloadn dX_append_76 rfl ?_
  refine x_cvni hf (kTr_contentSize X.hst) iTr_contentSize lX_86 tX_1 rfl rfl (by decide) (Nat.le_of_ble_eq_true rfl) dX_append_77 (fun v6 M5 hf => ?_)
  refine x_iloadn dX_append_80 rfl ?_
  refine x_eq0 hf dX_append_81 rfl (fun hf => ?_) (fun hf => ?_)
  · refine x_iconst dX_append_89 ?_
    exact x_mask [true, true, true, false, false] (wX_append_90 X _ _ _ _ _ hf)
  · refine x_bipush dX_append_84 (by decide) ?_
    refine x_goto (tgt := 90) dX_append_86 rfl ?_
    exact x_mask [true, true, true, false, false] (wX_append_90 X _ _ _ _ _ hf)
set_option maxRecDepth 10000 in
theorem wX_append_53 {r : Nat × Int × Mm} (X : Cy p l e (rmn 6 89) s m args below meth c D aK TX mvX false a0 "PackedImage" cX_append 5 (some .int) r) : ∀ (y1 : Int) (y2 : Int) (y3 : Int) (z0 : Int) (M : Mm), fX_append_53 y1 y2 y3 z0 M = some r → Wm X 53 [some (.inr 0), some (.inl y1), some (.inl y2), some (.inl y3), none] [.inl z0] M := by
  intro y1 y2 y3 z0 M hf
  unfold fX_append_53 at hf
  refine x_istore dX_append_53 (by decide) ?_
  refine x_iloadn dX_append_55 rfl ?_
  refine x_ne0 hf dX_append_56 rfl (fun hf => ?_) (fun hf => ?_)
  · exact x_mask [true, true, true, true, false] (wX_append_72 X _ _ _ _ hf)
  · refine x_iload dX_append_59 rfl ?_
    refine x_ne0 hf dX_append_61 rfl (fun hf => ?_) (fun hf => ?_)
    · exact x_mask [true, true, true, true, false] (wX_append_72 X _ _ _ _ hf)
    · exact x_throw (rt_x hf) (by decide) eX_45_47 (by decide) (by decide) ⟨Nat.le_of_ble_eq_true rfl, Nat.le_of_ble_eq_true rfl, Nat.le_of_ble_eq_true rfl, Nat.le_of_ble_eq_true rfl⟩ dX_append_64 dX_append_67 dX_append_68 dX_append_71
set_option maxRecDepth 10000 in
theorem wX_append_52 {r : Nat × Int × Mm} (X : Cy p l e (rmn 6 89) s m args below meth c D aK TX mvX false a0 "PackedImage" cX_append 5 (some .int) r) : ∀ (y1 : Int) (y2 : Int) (y3 : Int) (M : Mm), fX_append_52 y1 y2 y3 M = some r → Wm X 52 [some (.inr 0), some (.inl y1), some (.inl y2), some (.inl y3), none] [] M := by
  intro y1 y2 y3 M hf
  unfold fX_append_52 at hf
  refine x_iconst dX_append_52 ?_
  exact x_mask [true, true, true, true, false] (wX_append_53 X _ _ _ _ _ hf)
set_option maxRecDepth 10000 in
theorem wX_append_28 {r : Nat × Int × Mm} (X : Cy p l e (rmn 6 89) s m args below meth c D aK TX mvX false a0 "PackedImage" cX_append 5 (some .int) r) : ∀ (y1 : Int) (y2 : Int) (z0 : Int) (M : Mm), fX_append_28 y1 y2 z0 M = some r → Wm X 28 [some (.inr 0), some (.inl y1), some (.inl y2), none, none] [.inl z0] M := by
  intro y1 y2 z0 M hf
  unfold fX_append_28 at hf
  refine x_istoren dX_append_28 (by decide) ?_
  refine x_aloadn dX_append_29 rfl ?_
  refine x_getR gX_10 tX_0 rfl dX_append_30 ?_
  refine x_iloadn dX_append_33 rfl ?_
  refine x_iconst dX_append_34 ?_
  refine x_cvni hf (kTr_isNodeOf X.hst) iTr_isNodeOf lX_67 tX_1 rfl rfl (by decide) (Nat.le_of_ble_eq_true rfl) dX_append_35 (fun v4 M3 hf => ?_)
  refine x_eq0 hf dX_append_38 rfl (fun hf => ?_) (fun hf => ?_)
  · exact x_mask [true, true, true, true, false] (wX_append_52 X _ _ _ _ hf)
  · refine x_iloadn dX_append_41 rfl ?_
    refine x_csni hf (kX_isLetter X.hst) iX_isLetter lX_82 rfl (by decide) (Nat.le_of_ble_eq_true rfl) dX_append_42 (fun v10 M9 hf => ?_)
    refine x_eq0 hf dX_append_45 rfl (fun hf => ?_) (fun hf => ?_)
    · exact x_mask [true, true, true, true, false] (wX_append_52 X _ _ _ _ hf)
    · refine x_iconst dX_append_48 ?_
      refine x_goto (tgt := 53) dX_append_49 rfl ?_
      exact x_mask [true, true, true, true, false] (wX_append_53 X _ _ _ _ _ hf)
set_option maxRecDepth 10000 in
theorem wX_append_27 {r : Nat × Int × Mm} (X : Cy p l e (rmn 6 89) s m args below meth c D aK TX mvX false a0 "PackedImage" cX_append 5 (some .int) r) : ∀ (y1 : Int) (y2 : Int) (M : Mm), fX_append_27 y1 y2 M = some r → Wm X 27 [some (.inr 0), some (.inl y1), some (.inl y2), none, none] [] M := by
  intro y1 y2 M hf
  unfold fX_append_27 at hf
  refine x_iconst dX_append_27 ?_
  exact x_mask [true, true, true, false, false] (wX_append_28 X _ _ _ _ hf)
set_option maxRecDepth 10000 in
theorem wX_append {r : Nat × Int × Mm} (X : Cy p l e (rmn 6 89) s m args below meth c D aK TX mvX false a0 "PackedImage" cX_append 5 (some .int) r) {x1 : Int} {x2 : Int} {M : Mm} (hf : fX_append x1 x2 M = some r) : Wm X 0 [some (.inr 0), some (.inl x1), some (.inl x2), none, none] [] M := by
  unfold fX_append at hf
  refine x_aloadn dX_append_0 rfl ?_
  refine x_getR gX_10 tX_0 rfl dX_append_1 ?_
  refine x_iloadn dX_append_4 rfl ?_
  refine x_iconst dX_append_5 ?_
  refine x_cvni hf (kTr_isNodeOf X.hst) iTr_isNodeOf lX_67 tX_1 rfl rfl (by decide) (Nat.le_of_ble_eq_true rfl) dX_append_6 (fun v2 M1 hf => ?_)
  refine x_eq0 hf dX_append_9 rfl (fun hf => ?_) (fun hf => ?_)
  · exact x_mask [true, true, true, false, false] (wX_append_27 X _ _ _ hf)
  · refine x_iloadn dX_append_12 rfl ?_
    refine x_lt0 hf dX_append_13 rfl (fun hf => ?_) (fun hf => ?_)
    · exact x_mask [true, true, true, false, false] (wX_append_27 X _ _ _ hf)
    · refine x_iloadn dX_append_16 rfl ?_
      refine x_sipush dX_append_17 (by decide) ?_
      refine x_gt hf dX_append_20 rfl (fun hf => ?_) (fun hf => ?_)
      · exact x_mask [true, true, true, false, false] (wX_append_27 X _ _ _ hf)
      · refine x_iconst dX_append_23 ?_
        refine x_goto (tgt := 28) dX_append_24 rfl ?_
        exact x_mask [true, true, true, false, false] (wX_append_28 X _ _ _ _ hf)
theorem kX_append {l : Launch} (hl : l.stackTraces = false) {x1 : Int} {x2 : Int} {M : Mm} (w : Nat × Int × Mm) (hf : fX_append x1 x2 M = some w) : Ct l yX_append (rmn 6 89) TX mvX false (some .int) [.inr 0, .inl x1, .inl x2] M w := ct_of hl (by decide) iX_append.1 (Nat.le_of_ble_eq_true rfl) (fun X => wX_append X hf)
def fTr_countOf (x1 : Int) (M : Mm) : Option (Int × Mm) :=
  mrd M 3 16 x1 fun v1 =>
  some (v1, M)
set_option maxRecDepth 10000 in
theorem wTr_countOf {v0 : Int} {M9 : Mm} (X : Cy p l e (rmn 0 0) s m args below meth c D aK TX mvX false a0 "PackedImage$Tree" cTr_countOf 2 (some .int) (0, v0, M9)) {x1 : Int} {M : Mm} (hf : fTr_countOf x1 M = some (v0, M9)) : Wm X 0 [some (.inr 1), some (.inl x1)] [] M := by
  unfold fTr_countOf at hf
  refine x_aloadn dTr_countOf_0 rfl ?_
  refine x_getR gTr_15 tX_1 rfl dTr_countOf_1 ?_
  refine x_iloadn dTr_countOf_4 rfl ?_
  refine x_iald hf tX_3 (by decide) dTr_countOf_5 (fun v1 hf => ?_)
  exact x_iret (rt_n hf) rfl dTr_countOf_6
theorem kTr_countOf {l : Launch} (hl : l.stackTraces = false) {x1 : Int} {M : Mm} (v0 : Int) (M9 : Mm) (hf : fTr_countOf x1 M = some (v0, M9)) : Ct l yTr_countOf (rmn 0 0) TX mvX false (some .int) [.inr 1, .inl x1] M (0, v0, M9) := ct_of hl (by decide) iTr_countOf.1 (Nat.le_of_ble_eq_true rfl) (fun X => wTr_countOf X hf)
def fTr_kindOf (x1 : Int) (M : Mm) : Option (Int × Mm) :=
  mrd M 2 16 x1 fun v1 =>
  some (v1, M)
set_option maxRecDepth 10000 in
theorem wTr_kindOf {v0 : Int} {M9 : Mm} (X : Cy p l e (rmn 0 0) s m args below meth c D aK TX mvX false a0 "PackedImage$Tree" cTr_kindOf 2 (some .int) (0, v0, M9)) {x1 : Int} {M : Mm} (hf : fTr_kindOf x1 M = some (v0, M9)) : Wm X 0 [some (.inr 1), some (.inl x1)] [] M := by
  unfold fTr_kindOf at hf
  refine x_aloadn dTr_kindOf_0 rfl ?_
  refine x_getR gTr_9 tX_1 rfl dTr_kindOf_1 ?_
  refine x_iloadn dTr_kindOf_4 rfl ?_
  refine x_iald hf tX_2 (by decide) dTr_kindOf_5 (fun v1 hf => ?_)
  exact x_iret (rt_n hf) rfl dTr_kindOf_6
theorem kTr_kindOf {l : Launch} (hl : l.stackTraces = false) {x1 : Int} {M : Mm} (v0 : Int) (M9 : Mm) (hf : fTr_kindOf x1 M = some (v0, M9)) : Ct l yTr_kindOf (rmn 0 0) TX mvX false (some .int) [.inr 1, .inl x1] M (0, v0, M9) := ct_of hl (by decide) iTr_kindOf.1 (Nat.le_of_ble_eq_true rfl) (fun X => wTr_kindOf X hf)
def fTr_dataSize_20 : Nat → Int → Int → Int → Mm → Option (Int × Mm)
  | 0, _, _, _, _ => none
  | n+1, y1, y2, y3, M =>
    mlt y3 26
      (mcn (fTr_nodeAt y1 y3 M) fun v3 M2 =>
      meq v3 (-1)
        ((fTr_dataSize_20 n) y1 y2 (y3 + 1) M2)
        ((fTr_dataSize_20 n) y1 (y2 + 3) (y3 + 1) M2))
      (some (y2, M))
def fTr_dataSize (x1 : Int) (M : Mm) : Option (Int × Mm) :=
  mrd M 2 16 x1 fun v1 =>
  meq v1 0
    (fTr_dataSize_20 FU x1 0 0 M)
    (mrd M 4 16 x1 fun v4 =>
    some (v4, M))
set_option maxRecDepth 10000 in
theorem wTr_dataSize_20 {v0 : Int} {M9 : Mm} (X : Cy p l e (rmn 1 22) s m args below meth c D aK TX mvX false a0 "PackedImage$Tree" cTr_dataSize 4 (some .int) (0, v0, M9)) : ∀ (n : Nat) (y1 : Int) (y2 : Int) (y3 : Int) (M : Mm), fTr_dataSize_20 n y1 y2 y3 M = some (v0, M9) → Wm X 20 [some (.inr 1), some (.inl y1), some (.inl y2), some (.inl y3)] [] M := by
  intro n
  induction n with
  | zero => intro y1 y2 y3 M hf; exact nomatch (show (none : Option (Int × Mm)) = _ from hf)
  | succ n ih =>
    intro y1 y2 y3 M hf
    rw [fTr_dataSize_20] at hf
    refine x_iloadn dTr_dataSize_20 rfl ?_
    refine x_bipush dTr_dataSize_21 (by decide) ?_
    refine x_ge hf dTr_dataSize_23 rfl (fun hf => ?_) (fun hf => ?_)
    · refine x_iloadn dTr_dataSize_45 rfl ?_
      exact x_iret (rt_n hf) rfl dTr_dataSize_46
    · refine x_aloadn dTr_dataSize_26 rfl ?_
      refine x_iloadn dTr_dataSize_27 rfl ?_
      refine x_iloadn dTr_dataSize_28 rfl ?_
      refine x_cvni hf (kTr_nodeAt X.hst) iTr_nodeAt lTr_37 tX_1 rfl rfl (by decide) (Nat.le_of_ble_eq_true rfl) dTr_dataSize_29 (fun v3 M2 hf => ?_)
      refine x_iconst dTr_dataSize_32 ?_
      refine x_eq hf dTr_dataSize_33 rfl (fun hf => ?_) (fun hf => ?_)
      · refine x_iinc dTr_dataSize_39 rfl (by decide) ?_
        refine x_goto (tgt := 20) dTr_dataSize_42 rfl ?_
        exact x_mask [true, true, true, true] (ih _ _ _ _ hf)
      · refine x_iinc dTr_dataSize_36 rfl (by decide) ?_
        refine x_iinc dTr_dataSize_39 rfl (by decide) ?_
        refine x_goto (tgt := 20) dTr_dataSize_42 rfl ?_
        exact x_mask [true, true, true, true] (ih _ _ _ _ hf)
set_option maxRecDepth 10000 in
theorem wTr_dataSize {v0 : Int} {M9 : Mm} (X : Cy p l e (rmn 1 22) s m args below meth c D aK TX mvX false a0 "PackedImage$Tree" cTr_dataSize 4 (some .int) (0, v0, M9)) {x1 : Int} {M : Mm} (hf : fTr_dataSize x1 M = some (v0, M9)) : Wm X 0 [some (.inr 1), some (.inl x1), none, none] [] M := by
  unfold fTr_dataSize at hf
  refine x_aloadn dTr_dataSize_0 rfl ?_
  refine x_getR gTr_9 tX_1 rfl dTr_dataSize_1 ?_
  refine x_iloadn dTr_dataSize_4 rfl ?_
  refine x_iald hf tX_2 (by decide) dTr_dataSize_5 (fun v1 hf => ?_)
  refine x_eq0 hf dTr_dataSize_6 rfl (fun hf => ?_) (fun hf => ?_)
  · refine x_iconst dTr_dataSize_16 ?_
    refine x_istoren dTr_dataSize_17 (by decide) ?_
    refine x_iconst dTr_dataSize_18 ?_
    refine x_istoren dTr_dataSize_19 (by decide) ?_
    exact x_mask [true, true, true, true] (wTr_dataSize_20 X FU _ _ _ _ hf)
  · refine x_aloadn dTr_dataSize_9 rfl ?_
    refine x_getR gTr_18 tX_1 rfl dTr_dataSize_10 ?_
    refine x_iloadn dTr_dataSize_13 rfl ?_
    refine x_iald hf tX_4 (by decide) dTr_dataSize_14 (fun v4 hf => ?_)
    exact x_iret (rt_n hf) rfl dTr_dataSize_15
theorem kTr_dataSize {l : Launch} (hl : l.stackTraces = false) {x1 : Int} {M : Mm} (v0 : Int) (M9 : Mm) (hf : fTr_dataSize x1 M = some (v0, M9)) : Ct l yTr_dataSize (rmn 1 22) TX mvX false (some .int) [.inr 1, .inl x1] M (0, v0, M9) := ct_of hl (by decide) iTr_dataSize.1 (Nat.le_of_ble_eq_true rfl) (fun X => wTr_dataSize X hf)
def fTr_copyContent (x1 : Int) (k2 n2 : Nat) (M : Mm) : Option (Int × Mm) :=
  mrd M 4 16 x1 fun v1 =>
  mcp M 5 960 (x1 * 60) k2 n2 0 v1 fun M2 =>
  some (0, M2)
set_option maxRecDepth 10000 in
theorem wTr_copyContent {v0 : Int} {M9 : Mm} (X : Cy p l e (rmn 1 48) s m args below meth c D aK TX mvX false a0 "PackedImage$Tree" cTr_copyContent 3 none (0, v0, M9)) {k2 n2 : Nat} (hk2 : TX[k2]? = some (.inr (0, n2))) (hn2 : n2 < 2147483648) {x1 : Int} {M : Mm} (hf : fTr_copyContent x1 k2 n2 M = some (v0, M9)) : Wm X 0 [some (.inr 1), some (.inl x1), some (.inr k2)] [] M := by
  unfold fTr_copyContent at hf
  refine x_aloadn dTr_copyContent_0 rfl ?_
  refine x_getR gTr_21 tX_1 rfl dTr_copyContent_1 ?_
  refine x_iloadn dTr_copyContent_4 rfl ?_
  refine x_bipush dTr_copyContent_5 (by decide) ?_
  refine x_imul dTr_copyContent_7 ?_
  refine x_aloadn dTr_copyContent_8 rfl ?_
  refine x_iconst dTr_copyContent_9 ?_
  refine x_aloadn dTr_copyContent_10 rfl ?_
  refine x_getR gTr_18 tX_1 rfl dTr_copyContent_11 ?_
  refine x_iloadn dTr_copyContent_14 rfl ?_
  refine x_iald hf tX_4 (by decide) dTr_copyContent_15 (fun v1 hf => ?_)
  refine x_copy hf tX_5 hk2 ⟨(by decide), hn2⟩ lTr_41 mw_cpy ⟨Nat.le_of_ble_eq_true rfl, Nat.le_of_ble_eq_true rfl⟩ dTr_copyContent_16 (fun M2 hf => ?_)
  exact x_vret ⟨_, rt_n hf⟩ rfl dTr_copyContent_19
theorem kTr_copyContent {l : Launch} (hl : l.stackTraces = false) {k2 n2 : Nat} (hk2 : TX[k2]? = some (.inr (0, n2))) (hn2 : n2 < 2147483648) {x1 : Int} {M : Mm} (v0 : Int) (M9 : Mm) (hf : fTr_copyContent x1 k2 n2 M = some (v0, M9)) : Ct l yTr_copyContent (rmn 1 48) TX mvX false none [.inr 1, .inl x1, .inr k2] M (0, v0, M9) := ct_of hl (by decide) iTr_copyContent.1 (Nat.le_of_ble_eq_true rfl) (fun X => wTr_copyContent X hk2 hn2 hf)
def fPa_matchAt_98 (y3 : Int) (M : Mm) : Option (Int × Mm) :=
  meq (M 12 8) 0
    (some (0, M))
    (some (y3, M))
def fPa_matchAt_77 (K22 : Int → Int → Int → Int → Mm → Option (Int × Mm)) (y1 y2 y3 y4 y5 : Int) (M : Mm) : Option (Int × Mm) :=
  mlt y3 y5
    (mput M 12 8 y4 fun M3 =>
    K22 y1 y2 y5 (y4 + 1) M3)
    (K22 y1 y2 y3 (y4 + 1) M)
def fPa_matchAt_41 (K22 : Int → Int → Int → Int → Mm → Option (Int × Mm)) : Nat → Int → Int → Int → Int → Int → Mm → Option (Int × Mm)
  | 0, _, _, _, _, _, _ => none
  | n+1, y1, y2, y3, y4, y5, M =>
    mlt y5 y2
      (mrd M 13 60 (y1 + y5) fun v4 =>
      mrd M 13 60 ((y1 + y5) - y4) fun v5 =>
      meq v4 v5
        ((fPa_matchAt_41 K22 n) y1 y2 y3 y4 (y5 + 1) M)
        (fPa_matchAt_77 K22 y1 y2 y3 y4 y5 M))
      (fPa_matchAt_77 K22 y1 y2 y3 y4 y5 M)
def fPa_matchAt_22 : Nat → Int → Int → Int → Int → Mm → Option (Int × Mm)
  | 0, _, _, _, _, _ => none
  | n+1, y1, y2, y3, y4, M =>
    mlt (y1 - (M 12 5)) y4
      (fPa_matchAt_98 y3 M)
      (mlt y3 y2
        (fPa_matchAt_41 (fPa_matchAt_22 n) FU y1 y2 y3 y4 0 M)
        (fPa_matchAt_98 y3 M))
def fPa_matchAt (x1 : Int) (M : Mm) : Option (Int × Mm) :=
  mmin 17 ((M 12 3) - x1) fun v1 =>
  mput M 12 8 0 fun M2 =>
  fPa_matchAt_22 FU x1 v1 2 1 M2
set_option maxRecDepth 10000 in
theorem wPa_matchAt_98 {v0 : Int} {M9 : Mm} (X : Cy p l e (rmn 1 21) s m args below meth c D aK TX mvX false a0 "PackedImage$Packer" cPa_matchAt 6 (some .int) (0, v0, M9)) : ∀ (y3 : Int) (M : Mm), fPa_matchAt_98 y3 M = some (v0, M9) → Wm X 98 [some (.inr 12), none, none, some (.inl y3), none, none] [] M := by
  intro y3 M hf
  unfold fPa_matchAt_98 at hf
  refine x_aloadn dPa_matchAt_98 rfl ?_
  refine x_getI gPa_73 tX_12 rfl dPa_matchAt_99 ?_
  refine x_ne0 hf dPa_matchAt_102 rfl (fun hf => ?_) (fun hf => ?_)
  · refine x_iloadn dPa_matchAt_109 rfl ?_
    exact x_iret (rt_n hf) rfl dPa_matchAt_110
  · refine x_iconst dPa_matchAt_105 ?_
    refine x_goto (tgt := 110) dPa_matchAt_106 rfl ?_
    exact x_iret (rt_n hf) rfl dPa_matchAt_110
set_option maxRecDepth 10000 in
theorem wPa_matchAt_77 {v0 : Int} {M9 : Mm} (X : Cy p l e (rmn 1 21) s m args below meth c D aK TX mvX false a0 "PackedImage$Packer" cPa_matchAt 6 (some .int) (0, v0, M9)) {K22 : Int → Int → Int → Int → Mm → Option (Int × Mm)} (hK22 : ∀ (y1 : Int) (y2 : Int) (y3 : Int) (y4 : Int) (M : Mm), K22 y1 y2 y3 y4 M = some (v0, M9) → Wm X 22 [some (.inr 12), some (.inl y1), some (.inl y2), some (.inl y3), some (.inl y4), none] [] M) : ∀ (y1 : Int) (y2 : Int) (y3 : Int) (y4 : Int) (y5 : Int) (M : Mm), fPa_matchAt_77 K22 y1 y2 y3 y4 y5 M = some (v0, M9) → Wm X 77 [some (.inr 12), some (.inl y1), some (.inl y2), some (.inl y3), some (.inl y4), some (.inl y5)] [] M := by
  intro y1 y2 y3 y4 y5 M hf
  unfold fPa_matchAt_77 at hf
  refine x_iload dPa_matchAt_77 rfl ?_
  refine x_iloadn dPa_matchAt_79 rfl ?_
  refine x_le hf dPa_matchAt_80 rfl (fun hf => ?_) (fun hf => ?_)
  · refine x_iinc dPa_matchAt_92 rfl (by decide) ?_
    refine x_goto (tgt := 22) dPa_matchAt_95 rfl ?_
    exact x_mask [true, true, true, true, true, false] (hK22 _ _ _ _ _ hf)
  · refine x_iload dPa_matchAt_83 rfl ?_
    refine x_istoren dPa_matchAt_85 (by decide) ?_
    refine x_aloadn dPa_matchAt_86 rfl ?_
    refine x_iload dPa_matchAt_87 rfl ?_
    refine x_put hf gPa_73 pPa_8 tX_12 rfl dPa_matchAt_89 (fun M3 hf => ?_)
    refine x_iinc dPa_matchAt_92 rfl (by decide) ?_
    refine x_goto (tgt := 22) dPa_matchAt_95 rfl ?_
    exact x_mask [true, true, true, true, true, false] (hK22 _ _ _ _ _ hf)
set_option maxRecDepth 10000 in
theorem wPa_matchAt_41 {v0 : Int} {M9 : Mm} (X : Cy p l e (rmn 1 21) s m args below meth c D aK TX mvX false a0 "PackedImage$Packer" cPa_matchAt 6 (some .int) (0, v0, M9)) {K22 : Int → Int → Int → Int → Mm → Option (Int × Mm)} (hK22 : ∀ (y1 : Int) (y2 : Int) (y3 : Int) (y4 : Int) (M : Mm), K22 y1 y2 y3 y4 M = some (v0, M9) → Wm X 22 [some (.inr 12), some (.inl y1), some (.inl y2), some (.inl y3), some (.inl y4), none] [] M) : ∀ (n : Nat) (y1 : Int) (y2 : Int) (y3 : Int) (y4 : Int) (y5 : Int) (M : Mm), fPa_matchAt_41 K22 n y1 y2 y3 y4 y5 M = some (v0, M9) → Wm X 41 [some (.inr 12), some (.inl y1), some (.inl y2), some (.inl y3), some (.inl y4), some (.inl y5)] [] M := by
  intro n
  induction n with
  | zero => intro y1 y2 y3 y4 y5 M hf; exact nomatch (show (none : Option (Int × Mm)) = _ from hf)
  | succ n ih =>
    intro y1 y2 y3 y4 y5 M hf
    rw [fPa_matchAt_41] at hf
    refine x_iload dPa_matchAt_41 rfl ?_
    refine x_iloadn dPa_matchAt_43 rfl ?_
    refine x_ge hf dPa_matchAt_44 rfl (fun hf => ?_) (fun hf => ?_)
    · exact x_mask [true, true, true, true, true, true] (wPa_matchAt_77 X hK22 _ _ _ _ _ _ hf)
    · refine x_aloadn dPa_matchAt_47 rfl ?_
      refine x_getR gPa_9 tX_12 rfl dPa_matchAt_48 ?_
      refine x_iloadn dPa_matchAt_51 rfl ?_
      refine x_iload dPa_matchAt_52 rfl ?_
      refine x_iadd dPa_matchAt_54 ?_
      refine x_iald hf tX_13 (by decide) dPa_matchAt_55 (fun v4 hf => ?_)
      refine x_aloadn dPa_matchAt_56 rfl ?_
      refine x_getR gPa_9 tX_12 rfl dPa_matchAt_57 ?_
      refine x_iloadn dPa_matchAt_60 rfl ?_
      refine x_iload dPa_matchAt_61 rfl ?_
      refine x_iadd dPa_matchAt_63 ?_
      refine x_iload dPa_matchAt_64 rfl ?_
      refine x_isub dPa_matchAt_66 ?_
      refine x_iald hf tX_13 (by decide) dPa_matchAt_67 (fun v5 hf => ?_)
      refine x_ne hf dPa_matchAt_68 rfl (fun hf => ?_) (fun hf => ?_)
      · exact x_mask [true, true, true, true, true, true] (wPa_matchAt_77 X hK22 _ _ _ _ _ _ hf)
      · refine x_iinc dPa_matchAt_71 rfl (by decide) ?_
        refine x_goto (tgt := 41) dPa_matchAt_74 rfl ?_
        exact x_mask [true, true, true, true, true, true] (ih _ _ _ _ _ _ hf)
set_option maxRecDepth 10000 in
theorem wPa_matchAt_22 {v0 : Int} {M9 : Mm} (X : Cy p l e (rmn 1 21) s m args below meth c D aK TX mvX false a0 "PackedImage$Packer" cPa_matchAt 6 (some .int) (0, v0, M9)) : ∀ (n : Nat) (y1 : Int) (y2 : Int) (y3 : Int) (y4 : Int) (M : Mm), fPa_matchAt_22 n y1 y2 y3 y4 M = some (v0, M9) → Wm X 22 [some (.inr 12), some (.inl y1), some (.inl y2), some (.inl y3), some (.inl y4), none] [] M := by
  intro n
  induction n with
  | zero => intro y1 y2 y3 y4 M hf; exact nomatch (show (none : Option (Int × Mm)) = _ from hf)
  | succ n ih =>
    intro y1 y2 y3 y4 M hf
    rw [fPa_matchAt_22] at hf
    refine x_iload dPa_matchAt_22 rfl ?_
    refine x_iloadn dPa_matchAt_24 rfl ?_
    refine x_aloadn dPa_matchAt_25 rfl ?_
    refine x_getI gPa_50 tX_12 rfl dPa_matchAt_26 ?_
    refine x_isub dPa_matchAt_29 ?_
    refine x_gt hf dPa_matchAt_30 rfl (fun hf => ?_) (fun hf => ?_)
    · exact x_mask [true, false, false, true, false, false] (wPa_matchAt_98 X _ _ hf)
    · refine x_iloadn dPa_matchAt_33 rfl ?_
      refine x_iloadn dPa_matchAt_34 rfl ?_
      refine x_ge hf dPa_matchAt_35 rfl (fun hf => ?_) (fun hf => ?_)
      · exact x_mask [true, false, false, true, false, false] (wPa_matchAt_98 X _ _ hf)
      · refine x_iconst dPa_matchAt_38 ?_
        refine x_istore dPa_matchAt_39 (by decide) ?_
        exact x_mask [true, true, true, true, true, true] (wPa_matchAt_41 X ih FU _ _ _ _ _ _ hf)
set_option maxRecDepth 10000 in
theorem wPa_matchAt {v0 : Int} {M9 : Mm} (X : Cy p l e (rmn 1 21) s m args below meth c D aK TX mvX false a0 "PackedImage$Packer" cPa_matchAt 6 (some .int) (0, v0, M9)) {x1 : Int} {M : Mm} (hf : fPa_matchAt x1 M = some (v0, M9)) : Wm X 0 [some (.inr 12), some (.inl x1), none, none, none, none] [] M := by
  unfold fPa_matchAt at hf
  refine x_bipush dPa_matchAt_0 (by decide) ?_
  refine x_aloadn dPa_matchAt_2 rfl ?_
  refine x_getI gPa_31 tX_12 rfl dPa_matchAt_3 ?_
  refine x_iloadn dPa_matchAt_6 rfl ?_
  refine x_isub dPa_matchAt_7 ?_
  refine x_min hf lPa_67 mw_min ⟨Nat.le_of_ble_eq_true rfl, Nat.le_of_ble_eq_true rfl⟩ dPa_matchAt_8 (fun v1 hf => ?_)
  refine x_istoren dPa_matchAt_11 (by decide) ?_
  refine x_iconst dPa_matchAt_12 ?_
  refine x_istoren dPa_matchAt_13 (by decide) ?_
  refine x_aloadn dPa_matchAt_14 rfl ?_
  refine x_iconst dPa_matchAt_15 ?_
  refine x_put hf gPa_73 pPa_8 tX_12 rfl dPa_matchAt_16 (fun M2 hf => ?_)
  refine x_iconst dPa_matchAt_19 ?_
  refine x_istore dPa_matchAt_20 (by decide) ?_
  exact x_mask [true, true, true, true, true, false] (wPa_matchAt_22 X FU _ _ _ _ _ hf)
theorem kPa_matchAt {l : Launch} (hl : l.stackTraces = false) {x1 : Int} {M : Mm} (v0 : Int) (M9 : Mm) (hf : fPa_matchAt x1 M = some (v0, M9)) : Ct l yPa_matchAt (rmn 1 21) TX mvX false (some .int) [.inr 12, .inl x1] M (0, v0, M9) := ct_of hl (by decide) iPa_matchAt.1 (Nat.le_of_ble_eq_true rfl) (fun X => wPa_matchAt X hf)
def fPa_putByte (x1 : Int) (M : Mm) : Option (Int × Mm) :=
  mwr M 14 176 (((M 12 4) * 16) + (M 12 7)) x1 fun M1 =>
  mput M1 12 7 ((M1 12 7) + 1) fun M2 =>
  some (0, M2)
set_option maxRecDepth 10000 in
theorem wPa_putByte {v0 : Int} {M9 : Mm} (X : Cy p l e (rmn 0 0) s m args below meth c D aK TX mvX false a0 "PackedImage$Packer" cPa_putByte 2 none (0, v0, M9)) {x1 : Int} {M : Mm} (hf : fPa_putByte x1 M = some (v0, M9)) : Wm X 0 [some (.inr 12), some (.inl x1)] [] M := by
  unfold fPa_putByte at hf
  refine x_aloadn dPa_putByte_0 rfl ?_
  refine x_getR gPa_15 tX_12 rfl dPa_putByte_1 ?_
  refine x_aloadn dPa_putByte_4 rfl ?_
  refine x_getI gPa_44 tX_12 rfl dPa_putByte_5 ?_
  refine x_bipush dPa_putByte_8 (by decide) ?_
  refine x_imul dPa_putByte_10 ?_
  refine x_aloadn dPa_putByte_11 rfl ?_
  refine x_getI gPa_53 tX_12 rfl dPa_putByte_12 ?_
  refine x_iadd dPa_putByte_15 ?_
  refine x_iloadn dPa_putByte_16 rfl ?_
  refine x_iast hf tX_14 (by decide) dPa_putByte_17 (fun M1 hf => ?_)
  refine x_aloadn dPa_putByte_18 rfl ?_
  refine x_dup dPa_putByte_19 ?_
  refine x_getI gPa_53 tX_12 rfl dPa_putByte_20 ?_
  refine x_iconst dPa_putByte_23 ?_
  refine x_iadd dPa_putByte_24 ?_
  refine x_put hf gPa_53 pPa_7 tX_12 rfl dPa_putByte_25 (fun M2 hf => ?_)
  exact x_vret ⟨_, rt_n hf⟩ rfl dPa_putByte_28
theorem kPa_putByte {l : Launch} (hl : l.stackTraces = false) {x1 : Int} {M : Mm} (v0 : Int) (M9 : Mm) (hf : fPa_putByte x1 M = some (v0, M9)) : Ct l yPa_putByte (rmn 0 0) TX mvX false none [.inr 12, .inl x1] M (0, v0, M9) := ct_of hl (by decide) iPa_putByte.1 (Nat.le_of_ble_eq_true rfl) (fun X => wPa_putByte X hf)
def fPa_putToken_61 (y1 y2 : Int) (M : Mm) : Option (Int × Mm) :=
  mput M 12 6 ((M 12 6) + (y1 + y2)) fun M3 =>
  some (0, M3)
def fPa_putToken_23 : Nat → Int → Int → Int → Mm → Option (Int × Mm)
  | 0, _, _, _, _ => none
  | n+1, y1, y2, y3, M =>
    mlt y3 y1
      (mrd M 13 60 ((M 12 6) + y3) fun v5 =>
      mcn (fPa_putByte v5 M) fun _ M6 =>
      (fPa_putToken_23 n) y1 y2 (y3 + 1) M6)
      (mlt 0 y2
        (mcn (fPa_putByte (M 12 8) M) fun _ M4 =>
        fPa_putToken_61 y1 y2 M4)
        (fPa_putToken_61 y1 y2 M))
def fPa_putToken (x1 : Int) (x2 : Int) (M : Mm) : Option (Int × Mm) :=
  mlt 0 x2
    (mlor (x1 * 16) ((x2 - 3) + 1) fun v7 =>
    mcn (fPa_putByte v7 M) fun _ M8 =>
    fPa_putToken_23 FU x1 x2 0 M8)
    (mlor (x1 * 16) 0 fun v1 =>
    mcn (fPa_putByte v1 M) fun _ M2 =>
    fPa_putToken_23 FU x1 x2 0 M2)
set_option maxRecDepth 10000 in
theorem wPa_putToken_61 {v0 : Int} {M9 : Mm} (X : Cy p l e (rmn 1 21) s m args below meth c D aK TX mvX false a0 "PackedImage$Packer" cPa_putToken 4 none (0, v0, M9)) : ∀ (y1 : Int) (y2 : Int) (M : Mm), fPa_putToken_61 y1 y2 M = some (v0, M9) → Wm X 61 [some (.inr 12), some (.inl y1), some (.inl y2), none] [] M := by
  intro y1 y2 M hf
  unfold fPa_putToken_61 at hf
  refine x_aloadn dPa_putToken_61 rfl ?_
  refine x_dup dPa_putToken_62 ?_
  refine x_getI gPa_41 tX_12 rfl dPa_putToken_63 ?_
  refine x_iloadn dPa_putToken_66 rfl ?_
  refine x_iloadn dPa_putToken_67 rfl ?_
  refine x_iadd dPa_putToken_68 ?_
  refine x_iadd dPa_putToken_69 ?_
  refine x_put hf gPa_41 pPa_6 tX_12 rfl dPa_putToken_70 (fun M3 hf => ?_)
  exact x_vret ⟨_, rt_n hf⟩ rfl dPa_putToken_73
set_option maxRecDepth 10000 in
theorem wPa_putToken_23 {v0 : Int} {M9 : Mm} (X : Cy p l e (rmn 1 21) s m args below meth c D aK TX mvX false a0 "PackedImage$Packer" cPa_putToken 4 none (0, v0, M9)) : ∀ (n : Nat) (y1 : Int) (y2 : Int) (y3 : Int) (M : Mm), fPa_putToken_23 n y1 y2 y3 M = some (v0, M9) → Wm X 23 [some (.inr 12), some (.inl y1), some (.inl y2), some (.inl y3)] [] M := by
  intro n
  induction n with
  | zero => intro y1 y2 y3 M hf; exact nomatch (show (none : Option (Int × Mm)) = _ from hf)
  | succ n ih =>
    intro y1 y2 y3 M hf
    rw [fPa_putToken_23] at hf
    refine x_iloadn dPa_putToken_23 rfl ?_
    refine x_iloadn dPa_putToken_24 rfl ?_
    refine x_ge hf dPa_putToken_25 rfl (fun hf => ?_) (fun hf => ?_)
    · refine x_iloadn dPa_putToken_49 rfl ?_
      refine x_le0 hf dPa_putToken_50 rfl (fun hf => ?_) (fun hf => ?_)
      · exact x_mask [true, true, true, false] (wPa_putToken_61 X _ _ _ hf)
      · refine x_aloadn dPa_putToken_53 rfl ?_
        refine x_aloadn dPa_putToken_54 rfl ?_
        refine x_getI gPa_73 tX_12 rfl dPa_putToken_55 ?_
        refine x_cvnv hf (kPa_putByte X.hst) iPa_putByte lPa_76 tX_12 rfl rfl (by decide) (Nat.le_of_ble_eq_true rfl) dPa_putToken_58 (fun _ M4 hf => ?_)
        exact x_mask [true, true, true, false] (wPa_putToken_61 X _ _ _ hf)
    · refine x_aloadn dPa_putToken_28 rfl ?_
      refine x_aloadn dPa_putToken_29 rfl ?_
      refine x_getR gPa_9 tX_12 rfl dPa_putToken_30 ?_
      refine x_aloadn dPa_putToken_33 rfl ?_
      refine x_getI gPa_41 tX_12 rfl dPa_putToken_34 ?_
      refine x_iloadn dPa_putToken_37 rfl ?_
      refine x_iadd dPa_putToken_38 ?_
      refine x_iald hf tX_13 (by decide) dPa_putToken_39 (fun v5 hf => ?_)
      refine x_cvnv hf (kPa_putByte X.hst) iPa_putByte lPa_76 tX_12 rfl rfl (by decide) (Nat.le_of_ble_eq_true rfl) dPa_putToken_40 (fun _ M6 hf => ?_)
      refine x_iinc dPa_putToken_43 rfl (by decide) ?_
      refine x_goto (tgt := 23) dPa_putToken_46 rfl ?_
      exact x_mask [true, true, true, true] (ih _ _ _ _ hf)
set_option maxRecDepth 10000 in
theorem wPa_putToken {v0 : Int} {M9 : Mm} (X : Cy p l e (rmn 1 21) s m args below meth c D aK TX mvX false a0 "PackedImage$Packer" cPa_putToken 4 none (0, v0, M9)) {x1 : Int} {x2 : Int} {M : Mm} (hf : fPa_putToken x1 x2 M = some (v0, M9)) : Wm X 0 [some (.inr 12), some (.inl x1), some (.inl x2), none] [] M := by
  unfold fPa_putToken at hf
  refine x_aloadn dPa_putToken_0 rfl ?_
  refine x_iloadn dPa_putToken_1 rfl ?_
  refine x_iconst dPa_putToken_2 ?_
  refine x_ishl (sl4 _) dPa_putToken_3 ?_
  refine x_iloadn dPa_putToken_4 rfl ?_
  refine x_le0 hf dPa_putToken_5 rfl (fun hf => ?_) (fun hf => ?_)
  · refine x_iconst dPa_putToken_16 ?_
    refine x_ior hf dPa_putToken_17 (fun v1 hf => ?_)
    refine x_cvnv hf (kPa_putByte X.hst) iPa_putByte lPa_76 tX_12 rfl rfl (by decide) (Nat.le_of_ble_eq_true rfl) dPa_putToken_18 (fun _ M2 hf => ?_)
    refine x_iconst dPa_putToken_21 ?_
    refine x_istoren dPa_putToken_22 (by decide) ?_
    exact x_mask [true, true, true, true] (wPa_putToken_23 X FU _ _ _ _ hf)
  · refine x_iloadn dPa_putToken_8 rfl ?_
    refine x_iconst dPa_putToken_9 ?_
    refine x_isub dPa_putToken_10 ?_
    refine x_iconst dPa_putToken_11 ?_
    refine x_iadd dPa_putToken_12 ?_
    refine x_goto (tgt := 17) dPa_putToken_13 rfl ?_
    refine x_ior hf dPa_putToken_17 (fun v7 hf => ?_)
    refine x_cvnv hf (kPa_putByte X.hst) iPa_putByte lPa_76 tX_12 rfl rfl (by decide) (Nat.le_of_ble_eq_true rfl) dPa_putToken_18 (fun _ M8 hf => ?_)
    refine x_iconst dPa_putToken_21 ?_
    refine x_istoren dPa_putToken_22 (by decide) ?_
    exact x_mask [true, true, true, true] (wPa_putToken_23 X FU _ _ _ _ hf)
theorem kPa_putToken {l : Launch} (hl : l.stackTraces = false) {x1 : Int} {x2 : Int} {M : Mm} (v0 : Int) (M9 : Mm) (hf : fPa_putToken x1 x2 M = some (v0, M9)) : Ct l yPa_putToken (rmn 1 21) TX mvX false none [.inr 12, .inl x1, .inl x2] M (0, v0, M9) := ct_of hl (by decide) iPa_putToken.1 (Nat.le_of_ble_eq_true rfl) (fun X => wPa_putToken X hf)
end WK
