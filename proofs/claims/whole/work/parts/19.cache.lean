/-! Cache.holds, Cache.keepSpare: the roles of the three clusters turn -/
def piS (k : Nat) : Nat := if k = 20 then 22 else if k = 22 then 20 else if k = 21 then 23 else if k = 23 then 21 else k
def piR (k : Nat) : Nat := if k = 20 then 24 else if k = 22 then 20 else if k = 24 then 22 else if k = 21 then 25 else if k = 23 then 21 else if k = 25 then 23 else k
theorem mv_out {i : Nat} (h : mvX i = false) : i < 20 ∨ 25 < i := by
  unfold mvX at h
  rcases Nat.lt_or_ge i 20 with h1 | h1
  · exact Or.inl h1
  · rcases Nat.lt_or_ge 25 i with h2 | h2
    · exact Or.inr h2
    · rw [Nat.ble_eq_true_of_le h1, Nat.ble_eq_true_of_le h2] at h; cases h
theorem piS_mv (i : Nat) (h : mvX i = false) : piS i = i := by
  have h1 := mv_out h
  unfold piS
  rw [if_neg (by omega), if_neg (by omega), if_neg (by omega), if_neg (by omega)]
theorem piR_mv (i : Nat) (h : mvX i = false) : piR i = i := by
  have h1 := mv_out h
  unfold piR
  rw [if_neg (by omega), if_neg (by omega), if_neg (by omega), if_neg (by omega), if_neg (by omega), if_neg (by omega)]
def fCa_holds_95 (y3 : Int) (M : Mm) : Option (Int × Mm) := mz y3 (some (y3, M))
def fCa_holds_67 (z0 : Int) (M : Mm) : Option (Int × Mm) :=
  meq z0 0
    (mput M 19 4 ((M 19 4) + 1) fun M2 => fCa_holds_95 z0 M2)
    (mput M 19 3 ((M 19 3) + 1) fun M1 => fCa_holds_95 z0 M1)
def fCa_holds_40 (y1 y2 : Int) (M : Mm) : Option (Int × Mm) :=
  meq (M 20 1) y1
    (meq (M 20 2) y2 (fCa_holds_67 1 M) (fCa_holds_67 0 M))
    (fCa_holds_67 0 M)
def fCa_holds (x1 : Int) (x2 : Int) (M : Mm) : Option (Int × Mm) :=
  meq (M 22 1) x1
    (meq (M 22 2) x2 (fCa_holds_40 x1 x2 (fun k => M (piS k))) (fCa_holds_40 x1 x2 M))
    (fCa_holds_40 x1 x2 M)
def fCa_keepSpare (x1 : Int) (x2 : Int) (M : Mm) : Option (Int × Mm) :=
  mput M 24 1 x1 fun M1 =>
  mput M1 24 2 x2 fun M2 =>
  some (0, fun k => M2 (piR k))
section CA
variable {p : Program} {l : Launch} {e : Env} {s : State} {m : MethodId} {args : Array Value} {below : List Frame} {meth : Method} {c : Code} {D : va_G} {aK : Nat → ClassId} {a0 : Nat → Nat} {v0 : Int} {M9 : Mm}
theorem wCa_holds_95 (X : Cy p l e (rmn 0 0) s m args below meth c D aK TX mvX true a0 "PackedImage$Cache" cCa_holds 4 (some .boolean) (0, v0, M9)) : ∀ (y3 : Int) (M : Mm), fCa_holds_95 y3 M = some (v0, M9) → Wm X 95 [none, none, none, some (.inl y3)] [] M := by
  intro y3 M hf
  unfold fCa_holds_95 at hf
  refine x_iloadn dCa_holds_95 rfl ?_
  obtain ⟨hz, hf⟩ := mif_of hf
  exact x_zret (rt_n hf) hz rfl dCa_holds_96
theorem wCa_holds_67 (X : Cy p l e (rmn 0 0) s m args below meth c D aK TX mvX true a0 "PackedImage$Cache" cCa_holds 4 (some .boolean) (0, v0, M9)) : ∀ (z0 : Int) (M : Mm), fCa_holds_67 z0 M = some (v0, M9) → Wm X 67 [some (.inr 19), none, none, none] [.inl z0] M := by
  intro z0 M hf
  unfold fCa_holds_67 at hf
  refine x_istoren dCa_holds_67 (by decide) ?_
  refine x_iloadn dCa_holds_68 rfl ?_
  refine x_eq0 hf dCa_holds_69 rfl (fun hf => ?_) (fun hf => ?_)
  · refine x_aloadn dCa_holds_85 rfl ?_
    refine x_dup dCa_holds_86 ?_
    refine x_getI gCa_31 tX_19 rfl dCa_holds_87 ?_
    refine x_iconst dCa_holds_90 ?_
    refine x_iadd dCa_holds_91 ?_
    refine x_put hf gCa_31 pCa_4 tX_19 rfl dCa_holds_92 (fun M1 hf => ?_)
    exact x_mask [false, false, false, true] (wCa_holds_95 X _ _ hf)
  · refine x_aloadn dCa_holds_72 rfl ?_
    refine x_dup dCa_holds_73 ?_
    refine x_getI gCa_28 tX_19 rfl dCa_holds_74 ?_
    refine x_iconst dCa_holds_77 ?_
    refine x_iadd dCa_holds_78 ?_
    refine x_put hf gCa_28 pCa_3 tX_19 rfl dCa_holds_79 (fun M1 hf => ?_)
    refine x_goto (tgt := 95) dCa_holds_82 rfl ?_
    exact x_mask [false, false, false, true] (wCa_holds_95 X _ _ hf)
theorem wCa_holds_40 (X : Cy p l e (rmn 0 0) s m args below meth c D aK TX mvX true a0 "PackedImage$Cache" cCa_holds 4 (some .boolean) (0, v0, M9)) : ∀ (y1 y2 : Int) (M : Mm), fCa_holds_40 y1 y2 M = some (v0, M9) → Wm X 40 [some (.inr 19), some (.inl y1), some (.inl y2), none] [] M := by
  intro y1 y2 M hf
  unfold fCa_holds_40 at hf
  refine x_aloadn dCa_holds_40 rfl ?_
  refine x_getR gCa_12 tX_19 rfl dCa_holds_41 ?_
  refine x_getI gCa_24 tX_20 rfl dCa_holds_44 ?_
  refine x_iloadn dCa_holds_47 rfl ?_
  refine x_ne hf dCa_holds_48 rfl (fun hf => ?_) (fun hf => ?_)
  · refine x_iconst dCa_holds_66 ?_
    exact x_mask [true, false, false, false] (wCa_holds_67 X _ _ hf)
  · refine x_aloadn dCa_holds_51 rfl ?_
    refine x_getR gCa_12 tX_19 rfl dCa_holds_52 ?_
    refine x_getI gCa_34 tX_20 rfl dCa_holds_55 ?_
    refine x_iloadn dCa_holds_58 rfl ?_
    refine x_ne hf dCa_holds_59 rfl (fun hf => ?_) (fun hf => ?_)
    · refine x_iconst dCa_holds_66 ?_
      exact x_mask [true, false, false, false] (wCa_holds_67 X _ _ hf)
    · refine x_iconst dCa_holds_62 ?_
      refine x_goto (tgt := 67) dCa_holds_63 rfl ?_
      exact x_mask [true, false, false, false] (wCa_holds_67 X _ _ hf)
theorem wCa_holds (X : Cy p l e (rmn 0 0) s m args below meth c D aK TX mvX true a0 "PackedImage$Cache" cCa_holds 4 (some .boolean) (0, v0, M9)) {x1 x2 : Int} {M : Mm} (hf : fCa_holds x1 x2 M = some (v0, M9)) : Wm X 0 [some (.inr 19), some (.inl x1), some (.inl x2), none] [] M := by
  unfold fCa_holds at hf
  refine x_aloadn dCa_holds_0 rfl ?_
  refine x_getR gCa_18 tX_19 rfl dCa_holds_1 ?_
  refine x_getI gCa_24 tX_22 rfl dCa_holds_4 ?_
  refine x_iloadn dCa_holds_7 rfl ?_
  refine x_ne hf dCa_holds_8 rfl (fun hf => wCa_holds_40 X _ _ _ hf) (fun hf => ?_)
  refine x_aloadn dCa_holds_11 rfl ?_
  refine x_getR gCa_18 tX_19 rfl dCa_holds_12 ?_
  refine x_getI gCa_34 tX_22 rfl dCa_holds_15 ?_
  refine x_iloadn dCa_holds_18 rfl ?_
  refine x_ne hf dCa_holds_19 rfl (fun hf => wCa_holds_40 X _ _ _ hf) (fun hf => ?_)
  refine x_aloadn dCa_holds_22 rfl ?_
  refine x_getR gCa_18 tX_19 rfl dCa_holds_23 ?_
  refine x_astoren dCa_holds_26 (by decide) ?_
  refine t_in ?_
  refine t_aloadn dCa_holds_27 rfl ?_
  refine t_aloadn dCa_holds_28 rfl ?_
  refine t_getR gCa_12 tX_19 rfl dCa_holds_29 ?_
  refine t_putR gCa_18 pCa_1 tX_19 (by decide) rfl rfl dCa_holds_32 ?_
  refine t_aloadn dCa_holds_35 rfl ?_
  refine t_aloadn dCa_holds_36 rfl ?_
  refine t_putR gCa_12 pCa_0 rfl (by decide) rfl rfl dCa_holds_37 ?_
  refine t_out piS [true, true, true, false] rfl (fun k hk => match k, (show k < 27 from hk) with | 0, _ => rfl | 1, _ => rfl | 2, _ => rfl | 3, _ => rfl | 4, _ => rfl | 5, _ => rfl | 6, _ => rfl | 7, _ => rfl | 8, _ => rfl | 9, _ => rfl | 10, _ => rfl | 11, _ => rfl | 12, _ => rfl | 13, _ => rfl | 14, _ => rfl | 15, _ => rfl | 16, _ => rfl | 17, _ => rfl | 18, _ => rfl | 19, _ => rfl | 20, _ => rfl | 21, _ => rfl | 22, _ => rfl | 23, _ => rfl | 24, _ => rfl | 25, _ => rfl | 26, _ => rfl | k + 27, h => absurd h (by omega)) piS_mv (by decide +kernel) (by decide +kernel) rfl rfl ?_
  exact wCa_holds_40 X _ _ _ hf
theorem kCa_holds (hl : l.stackTraces = false) {x1 x2 : Int} {M : Mm} (v0 : Int) (M9 : Mm) (hf : fCa_holds x1 x2 M = some (v0, M9)) : Ct l yCa_holds (rmn 0 0) TX mvX true (some .boolean) [.inr 19, .inl x1, .inl x2] M (0, v0, M9) := ct_of hl (by decide) iCa_holds.1 (Nat.le_of_ble_eq_true rfl) (fun X => wCa_holds X hf)
theorem wCa_keepSpare (X : Cy p l e (rmn 0 0) s m args below meth c D aK TX mvX true a0 "PackedImage$Cache" cCa_keepSpare 4 none (0, v0, M9)) {x1 x2 : Int} {M : Mm} (hf : fCa_keepSpare x1 x2 M = some (v0, M9)) : Wm X 0 [some (.inr 19), some (.inl x1), some (.inl x2), none] [] M := by
  unfold fCa_keepSpare at hf
  refine x_aloadn dCa_keepSpare_0 rfl ?_
  refine x_getR gCa_21 tX_19 rfl dCa_keepSpare_1 ?_
  refine x_astoren dCa_keepSpare_4 (by decide) ?_
  refine x_aloadn dCa_keepSpare_5 rfl ?_
  refine x_iloadn dCa_keepSpare_6 rfl ?_
  refine x_put hf gCa_24 pCl_1 tX_24 rfl dCa_keepSpare_7 (fun M1 hf => ?_)
  refine x_aloadn dCa_keepSpare_10 rfl ?_
  refine x_iloadn dCa_keepSpare_11 rfl ?_
  refine x_put hf gCa_34 pCl_2 tX_24 rfl dCa_keepSpare_12 (fun M2 hf => ?_)
  refine t_in ?_
  refine t_aloadn dCa_keepSpare_15 rfl ?_
  refine t_aloadn dCa_keepSpare_16 rfl ?_
  refine t_getR gCa_18 tX_19 rfl dCa_keepSpare_17 ?_
  refine t_putR gCa_21 pCa_2 tX_19 (by decide) rfl rfl dCa_keepSpare_20 ?_
  refine t_aloadn dCa_keepSpare_23 rfl ?_
  refine t_aloadn dCa_keepSpare_24 rfl ?_
  refine t_getR (fds := [some 20, some 22, some 22, none, none]) gCa_12 rfl rfl dCa_keepSpare_25 ?_
  refine t_putR gCa_18 pCa_1 rfl (by decide) rfl rfl dCa_keepSpare_28 ?_
  refine t_aloadn dCa_keepSpare_31 rfl ?_
  refine t_aloadn dCa_keepSpare_32 rfl ?_
  refine t_putR gCa_12 pCa_0 rfl (by decide) rfl rfl dCa_keepSpare_33 ?_
  refine t_out piR [true, true, true, false] rfl (fun k hk => match k, (show k < 27 from hk) with | 0, _ => rfl | 1, _ => rfl | 2, _ => rfl | 3, _ => rfl | 4, _ => rfl | 5, _ => rfl | 6, _ => rfl | 7, _ => rfl | 8, _ => rfl | 9, _ => rfl | 10, _ => rfl | 11, _ => rfl | 12, _ => rfl | 13, _ => rfl | 14, _ => rfl | 15, _ => rfl | 16, _ => rfl | 17, _ => rfl | 18, _ => rfl | 19, _ => rfl | 20, _ => rfl | 21, _ => rfl | 22, _ => rfl | 23, _ => rfl | 24, _ => rfl | 25, _ => rfl | 26, _ => rfl | k + 27, h => absurd h (by omega)) piR_mv (by decide +kernel) (by decide +kernel) rfl rfl ?_
  exact x_vret ⟨_, rt_n hf⟩ rfl dCa_keepSpare_36
theorem kCa_keepSpare (hl : l.stackTraces = false) {x1 x2 : Int} {M : Mm} (v0 : Int) (M9 : Mm) (hf : fCa_keepSpare x1 x2 M = some (v0, M9)) : Ct l yCa_keepSpare (rmn 0 0) TX mvX true none [.inr 19, .inl x1, .inl x2] M (0, v0, M9) := ct_of hl (by decide) iCa_keepSpare.1 (Nat.le_of_ble_eq_true rfl) (fun X => wCa_keepSpare X hf)
end CA
