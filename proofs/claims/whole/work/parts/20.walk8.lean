section WK
variable {p : Program} {l : Launch} {e : Env} {s : State} {m : MethodId} {args : Array Value} {below : List Frame} {meth : Method} {c : Code} {D : va_G} {aK : Nat → ClassId} {a0 : Nat → Nat}
def fR_write_347 : Nat → Int → Int → Int → Mm → Option (Int × Mm)
  | 0, _, _, _, _ => none
  | n+1, y3, y8, y10, M =>
    mlt 64 (y3 + y8)
      (some ((y3 + y8), M))
      (mlt y10 (16 * y8)
        (mrd M 10 192 y10 fun v16 =>
        mwr M 9 1024 ((16 * y3) + y10) v16 fun M17 =>
        (fR_write_347 n) y3 y8 (y10 + 1) M17)
        (some ((y3 + y8), M)))
def fR_write_312 (y3 y6 y8 y9 : Int) (M : Mm) : Option (Int × Mm) :=
  mlt y3 (y9 + y8)
    (mwr M 9 1024 (y6 + 2) y3 fun M15 =>
    fR_write_347 FU y3 y8 0 M15)
    (mwr M 9 1024 (y6 + 2) y9 fun M18 =>
    some (y3, M18))
def fR_write_281 : Nat → Int → Int → Int → Int → Int → Mm → Option (Int × Mm)
  | 0, _, _, _, _, _, _ => none
  | n+1, y3, y4, y6, y8, y9, M =>
    mlt y3 (y9 + y8)
      (fR_write_312 y3 y6 y8 y9 M)
      (meq y4 0
        ((fR_write_281 n) y3 y4 y6 y8 (y9 + 1) M)
        (mcn (fR_isThere y9 y8 M) fun v20 M19 =>
        meq v20 0
          ((fR_write_281 n) y3 y4 y6 y8 (y9 + 1) M19)
          (fR_write_312 y3 y6 y8 y9 M19)))
def fR_write_271 (y2 y3 y4 y6 y8 : Int) (M : Mm) : Option (Int × Mm) :=
  meq y8 0
    (some (y3, M))
    (fR_write_281 FU y3 y4 y6 y8 y2 M)
def fR_write_241 : Nat → Int → Int → Int → Int → Int → Int → Mm → Option (Int × Mm)
  | 0, _, _, _, _, _, _, _ => none
  | n+1, y2, y3, y4, y6, y8, y9, M =>
    mlt y9 (16 * y8)
      (mrd M 11 192 y9 fun v22 =>
      mwr M 10 192 y9 v22 fun M23 =>
      (fR_write_241 n) y2 y3 y4 y6 y8 (y9 + 1) M23)
      (fR_write_271 y2 y3 y4 y6 y8 M)
def fR_write_206 : Nat → Int → Int → Int → Int → Int → Int → Mm → Option (Int × Mm)
  | 0, _, _, _, _, _, _, _ => none
  | n+1, y2, y3, y4, y6, y8, y9, M =>
    mlt y9 y8
      (mrd M 12 12 y9 fun v24 =>
      mwr M 9 1024 ((y6 + 5) + y9) v24 fun M25 =>
      (fR_write_206 n) y2 y3 y4 y6 y8 (y9 + 1) M25)
      (fR_write_241 FU y2 y3 y4 y6 y8 0 M)
def fR_write_186 (y2 y3 y4 y6 y7 y8 : Int) (M : Mm) : Option (Int × Mm) :=
  meq y7 2
    (mwr M 9 1024 (y6 + 4) y8 fun M21 =>
    fR_write_206 FU y2 y3 y4 y6 y8 0 M21)
    (fR_write_271 y2 y3 y4 y6 y8 M)
def fR_write_145 : Nat → Int → Int → Int → Int → Int → Int → Int → Int → Mm → Option (Int × Mm)
  | 0, _, _, _, _, _, _, _, _, _ => none
  | n+1, y2, y3, y4, y5, y6, y7, y8, y9, M =>
    meq y7 1
      (mlt y9 y5
        (mrem y9 16 fun v26 =>
        mrd M 10 192 y9 fun v27 =>
        mwr M 9 1024 ((y6 + 4) + v26) v27 fun M28 =>
        (fR_write_145 n) y2 y3 y4 y5 y6 y7 y8 (y9 + 1) M28)
        (fR_write_186 y2 y3 y4 y6 y7 y8 M))
      (fR_write_186 y2 y3 y4 y6 y7 y8 M)
def fR_write_84 (y1 y2 y3 y4 y5 y6 y7 y8 z1 z2 : Int) (M : Mm) : Option (Int × Mm) :=
  mrd M 1 16 y1 fun v8 =>
  mwr M 9 1024 z1 ((z2 + (2 * v8)) + (8 * y7)) fun M9 =>
  mwr M9 9 1024 (y6 + 1) y5 fun M10 =>
  mrd M10 5 16 y1 fun v11 =>
  mwr M10 9 1024 (y6 + 3) (v11 % 256) fun M12 =>
  mcn (fR_layData y1 M12) fun _ M13 =>
  mdiv y5 16 fun v14 =>
  fR_write_145 FU y2 y3 y4 y5 y6 y7 y8 (v14 * 16) M13
def fR_write_62 (y1 y2 y3 y4 y5 y6 y7 z0 : Int) (M : Mm) : Option (Int × Mm) :=
  mrd M 8 16 y1 fun v7 =>
  meq v7 0
    (fR_write_84 y1 y2 y3 y4 y5 y6 y7 z0 y6 0 M)
    (fR_write_84 y1 y2 y3 y4 y5 y6 y7 z0 y6 1 M)
def fR_write (x1 : Int) (x2 : Int) (x3 : Int) (x4 : Int) (M : Mm) : Option (Int × Mm) :=
  mcn (fR_sizeOf x1 M) fun v2 M1 =>
  mrd M1 6 16 x1 fun v3 =>
  mrd M1 7 16 x1 fun v4 =>
  meq v4 2
    (mcn (fR_pack x1 M1) fun v31 M30 =>
    fR_write_62 x1 x2 x3 x4 v2 (16 + (8 * v3)) v4 v31 M30)
    (meq v4 1
      (mdiv v2 16 fun v29 =>
      fR_write_62 x1 x2 x3 x4 v2 (16 + (8 * v3)) v4 v29 M1)
      (mcn (fR_blocksFor v2 M1) fun v6 M5 =>
      fR_write_62 x1 x2 x3 x4 v2 (16 + (8 * v3)) v4 v6 M5))
set_option maxRecDepth 10000 in
theorem wR_write_347 {v0 : Int} {M9 : Mm} (X : Cy p l e (rmn 3 78) s m args below meth c D aK TR mvR false a0 "PackedImageModel" cR_write 11 (some .int) (0, v0, M9)) : ∀ (n : Nat) (y3 : Int) (y8 : Int) (y10 : Int) (M : Mm), fR_write_347 n y3 y8 y10 M = some (v0, M9) → Wm X 347 [some (.inr 0), none, none, some (.inl y3), none, none, none, none, some (.inl y8), none, some (.inl y10)] [] M := by
  intro n
  induction n with
  | zero => intro y3 y8 y10 M hf; exact nomatch (show (none : Option (Int × Mm)) = _ from hf)
  | succ n ih =>
    intro y3 y8 y10 M hf
    rw [fR_write_347] at hf
    refine x_iloadn dR_write_347 rfl ?_
    refine x_iload dR_write_348 rfl ?_
    refine x_iadd dR_write_350 ?_
    refine x_bipush dR_write_351 (by decide) ?_
    refine x_gt hf dR_write_353 rfl (fun hf => ?_) (fun hf => ?_)
    · refine x_iloadn dR_write_391 rfl ?_
      refine x_iload dR_write_392 rfl ?_
      refine x_iadd dR_write_394 ?_
      exact x_iret (rt_n hf) rfl dR_write_395
    · refine x_iload dR_write_356 rfl ?_
      refine x_bipush dR_write_358 (by decide) ?_
      refine x_iload dR_write_360 rfl ?_
      refine x_imul dR_write_362 ?_
      refine x_ge hf dR_write_363 rfl (fun hf => ?_) (fun hf => ?_)
      · refine x_iloadn dR_write_391 rfl ?_
        refine x_iload dR_write_392 rfl ?_
        refine x_iadd dR_write_394 ?_
        exact x_iret (rt_n hf) rfl dR_write_395
      · refine x_aloadn dR_write_366 rfl ?_
        refine x_getR gR_39 tR_0 rfl dR_write_367 ?_
        refine x_bipush dR_write_370 (by decide) ?_
        refine x_iloadn dR_write_372 rfl ?_
        refine x_imul dR_write_373 ?_
        refine x_iload dR_write_374 rfl ?_
        refine x_iadd dR_write_376 ?_
        refine x_aloadn dR_write_377 rfl ?_
        refine x_getR gR_42 tR_0 rfl dR_write_378 ?_
        refine x_iload dR_write_381 rfl ?_
        refine x_iald hf tR_10 (by decide) dR_write_383 (fun v16 hf => ?_)
        refine x_iast hf tR_9 (by decide) dR_write_384 (fun M17 hf => ?_)
        refine x_iinc dR_write_385 rfl (by decide) ?_
        refine x_goto (tgt := 347) dR_write_388 rfl ?_
        exact x_mask [true, false, false, true, false, false, false, false, true, false, true] (ih _ _ _ _ hf)
set_option maxRecDepth 10000 in
theorem wR_write_312 {v0 : Int} {M9 : Mm} (X : Cy p l e (rmn 3 78) s m args below meth c D aK TR mvR false a0 "PackedImageModel" cR_write 11 (some .int) (0, v0, M9)) : ∀ (y3 : Int) (y6 : Int) (y8 : Int) (y9 : Int) (M : Mm), fR_write_312 y3 y6 y8 y9 M = some (v0, M9) → Wm X 312 [some (.inr 0), none, none, some (.inl y3), none, none, some (.inl y6), none, some (.inl y8), some (.inl y9), none] [] M := by
  intro y3 y6 y8 y9 M hf
  unfold fR_write_312 at hf
  refine x_iload dR_write_312 rfl ?_
  refine x_iload dR_write_314 rfl ?_
  refine x_iadd dR_write_316 ?_
  refine x_iloadn dR_write_317 rfl ?_
  refine x_gt hf dR_write_318 rfl (fun hf => ?_) (fun hf => ?_)
  · refine x_aloadn dR_write_334 rfl ?_
    refine x_getR gR_39 tR_0 rfl dR_write_335 ?_
    refine x_iload dR_write_338 rfl ?_
    refine x_iconst dR_write_340 ?_
    refine x_iadd dR_write_341 ?_
    refine x_iloadn dR_write_342 rfl ?_
    refine x_iast hf tR_9 (by decide) dR_write_343 (fun M15 hf => ?_)
    refine x_iconst dR_write_344 ?_
    refine x_istore dR_write_345 (by decide) ?_
    exact x_mask [true, false, false, true, false, false, false, false, true, false, true] (wR_write_347 X FU _ _ _ _ hf)
  · refine x_aloadn dR_write_321 rfl ?_
    refine x_getR gR_39 tR_0 rfl dR_write_322 ?_
    refine x_iload dR_write_325 rfl ?_
    refine x_iconst dR_write_327 ?_
    refine x_iadd dR_write_328 ?_
    refine x_iload dR_write_329 rfl ?_
    refine x_iast hf tR_9 (by decide) dR_write_331 (fun M18 hf => ?_)
    refine x_iloadn dR_write_332 rfl ?_
    exact x_iret (rt_n hf) rfl dR_write_333
set_option maxRecDepth 10000 in
theorem wR_write_281 {v0 : Int} {M9 : Mm} (X : Cy p l e (rmn 3 78) s m args below meth c D aK TR mvR false a0 "PackedImageModel" cR_write 11 (some .int) (0, v0, M9)) : ∀ (n : Nat) (y3 : Int) (y4 : Int) (y6 : Int) (y8 : Int) (y9 : Int) (M : Mm), fR_write_281 n y3 y4 y6 y8 y9 M = some (v0, M9) → Wm X 281 [some (.inr 0), none, none, some (.inl y3), some (.inl y4), none, some (.inl y6), none, some (.inl y8), some (.inl y9), none] [] M := by
  intro n
  induction n with
  | zero => intro y3 y4 y6 y8 y9 M hf; exact nomatch (show (none : Option (Int × Mm)) = _ from hf)
  | succ n ih =>
    intro y3 y4 y6 y8 y9 M hf
    rw [fR_write_281] at hf
    refine x_iload dR_write_281 rfl ?_
    refine x_iload dR_write_283 rfl ?_
    refine x_iadd dR_write_285 ?_
    refine x_iloadn dR_write_286 rfl ?_
    refine x_gt hf dR_write_287 rfl (fun hf => ?_) (fun hf => ?_)
    · exact x_mask [true, false, false, true, false, false, true, false, true, true, false] (wR_write_312 X _ _ _ _ _ hf)
    · refine x_iload dR_write_290 rfl ?_
      refine x_eq0 hf dR_write_292 rfl (fun hf => ?_) (fun hf => ?_)
      · refine x_iinc dR_write_306 rfl (by decide) ?_
        refine x_goto (tgt := 281) dR_write_309 rfl ?_
        exact x_mask [true, false, false, true, true, false, true, false, true, true, false] (ih _ _ _ _ _ _ hf)
      · refine x_aloadn dR_write_295 rfl ?_
        refine x_iload dR_write_296 rfl ?_
        refine x_iload dR_write_298 rfl ?_
        refine x_cvni hf (kR_isThere X.hst) iR_isThere lR_114 tR_0 rfl rfl (by decide) (Nat.le_of_ble_eq_true rfl) dR_write_300 (fun v20 M19 hf => ?_)
        refine x_ne0 hf dR_write_303 rfl (fun hf => ?_) (fun hf => ?_)
        · exact x_mask [true, false, false, true, false, false, true, false, true, true, false] (wR_write_312 X _ _ _ _ _ hf)
        · refine x_iinc dR_write_306 rfl (by decide) ?_
          refine x_goto (tgt := 281) dR_write_309 rfl ?_
          exact x_mask [true, false, false, true, true, false, true, false, true, true, false] (ih _ _ _ _ _ _ hf)
set_option maxRecDepth 10000 in
theorem wR_write_271 {v0 : Int} {M9 : Mm} (X : Cy p l e (rmn 3 78) s m args below meth c D aK TR mvR false a0 "PackedImageModel" cR_write 11 (some .int) (0, v0, M9)) : ∀ (y2 : Int) (y3 : Int) (y4 : Int) (y6 : Int) (y8 : Int) (M : Mm), fR_write_271 y2 y3 y4 y6 y8 M = some (v0, M9) → Wm X 271 [some (.inr 0), none, some (.inl y2), some (.inl y3), some (.inl y4), none, some (.inl y6), none, some (.inl y8), none, none] [] M := by
  intro y2 y3 y4 y6 y8 M hf
  unfold fR_write_271 at hf
  refine x_iload dR_write_271 rfl ?_
  refine x_ne0 hf dR_write_273 rfl (fun hf => ?_) (fun hf => ?_)
  · refine x_iloadn dR_write_278 rfl ?_
    refine x_istore dR_write_279 (by decide) ?_
    exact x_mask [true, false, false, true, true, false, true, false, true, true, false] (wR_write_281 X FU _ _ _ _ _ _ hf)
  · refine x_iloadn dR_write_276 rfl ?_
    exact x_iret (rt_n hf) rfl dR_write_277
set_option maxRecDepth 10000 in
theorem wR_write_241 {v0 : Int} {M9 : Mm} (X : Cy p l e (rmn 3 78) s m args below meth c D aK TR mvR false a0 "PackedImageModel" cR_write 11 (some .int) (0, v0, M9)) : ∀ (n : Nat) (y2 : Int) (y3 : Int) (y4 : Int) (y6 : Int) (y8 : Int) (y9 : Int) (M : Mm), fR_write_241 n y2 y3 y4 y6 y8 y9 M = some (v0, M9) → Wm X 241 [some (.inr 0), none, some (.inl y2), some (.inl y3), some (.inl y4), none, some (.inl y6), none, some (.inl y8), some (.inl y9), none] [] M := by
  intro n
  induction n with
  | zero => intro y2 y3 y4 y6 y8 y9 M hf; exact nomatch (show (none : Option (Int × Mm)) = _ from hf)
  | succ n ih =>
    intro y2 y3 y4 y6 y8 y9 M hf
    rw [fR_write_241] at hf
    refine x_iload dR_write_241 rfl ?_
    refine x_bipush dR_write_243 (by decide) ?_
    refine x_iload dR_write_245 rfl ?_
    refine x_imul dR_write_247 ?_
    refine x_ge hf dR_write_248 rfl (fun hf => ?_) (fun hf => ?_)
    · exact x_mask [true, false, true, true, true, false, true, false, true, false, false] (wR_write_271 X _ _ _ _ _ _ hf)
    · refine x_aloadn dR_write_251 rfl ?_
      refine x_getR gR_42 tR_0 rfl dR_write_252 ?_
      refine x_iload dR_write_255 rfl ?_
      refine x_aloadn dR_write_257 rfl ?_
      refine x_getR gR_45 tR_0 rfl dR_write_258 ?_
      refine x_iload dR_write_261 rfl ?_
      refine x_iald hf tR_11 (by decide) dR_write_263 (fun v22 hf => ?_)
      refine x_iast hf tR_10 (by decide) dR_write_264 (fun M23 hf => ?_)
      refine x_iinc dR_write_265 rfl (by decide) ?_
      refine x_goto (tgt := 241) dR_write_268 rfl ?_
      exact x_mask [true, false, true, true, true, false, true, false, true, true, false] (ih _ _ _ _ _ _ _ hf)
set_option maxRecDepth 10000 in
theorem wR_write_206 {v0 : Int} {M9 : Mm} (X : Cy p l e (rmn 3 78) s m args below meth c D aK TR mvR false a0 "PackedImageModel" cR_write 11 (some .int) (0, v0, M9)) : ∀ (n : Nat) (y2 : Int) (y3 : Int) (y4 : Int) (y6 : Int) (y8 : Int) (y9 : Int) (M : Mm), fR_write_206 n y2 y3 y4 y6 y8 y9 M = some (v0, M9) → Wm X 206 [some (.inr 0), none, some (.inl y2), some (.inl y3), some (.inl y4), none, some (.inl y6), none, some (.inl y8), some (.inl y9), none] [] M := by
  intro n
  induction n with
  | zero => intro y2 y3 y4 y6 y8 y9 M hf; exact nomatch (show (none : Option (Int × Mm)) = _ from hf)
  | succ n ih =>
    intro y2 y3 y4 y6 y8 y9 M hf
    rw [fR_write_206] at hf
    refine x_iload dR_write_206 rfl ?_
    refine x_iload dR_write_208 rfl ?_
    refine x_ge hf dR_write_210 rfl (fun hf => ?_) (fun hf => ?_)
    · refine x_iconst dR_write_238 ?_
      refine x_istore dR_write_239 (by decide) ?_
      exact x_mask [true, false, true, true, true, false, true, false, true, true, false] (wR_write_241 X FU _ _ _ _ _ _ _ hf)
    · refine x_aloadn dR_write_213 rfl ?_
      refine x_getR gR_39 tR_0 rfl dR_write_214 ?_
      refine x_iload dR_write_217 rfl ?_
      refine x_iconst dR_write_219 ?_
      refine x_iadd dR_write_220 ?_
      refine x_iload dR_write_221 rfl ?_
      refine x_iadd dR_write_223 ?_
      refine x_aloadn dR_write_224 rfl ?_
      refine x_getR gR_48 tR_0 rfl dR_write_225 ?_
      refine x_iload dR_write_228 rfl ?_
      refine x_iald hf tR_12 (by decide) dR_write_230 (fun v24 hf => ?_)
      refine x_iast hf tR_9 (by decide) dR_write_231 (fun M25 hf => ?_)
      refine x_iinc dR_write_232 rfl (by decide) ?_
      refine x_goto (tgt := 206) dR_write_235 rfl ?_
      exact x_mask [true, false, true, true, true, false, true, false, true, true, false] (ih _ _ _ _ _ _ _ hf)
set_option maxRecDepth 10000 in
theorem wR_write_186 {v0 : Int} {M9 : Mm} (X : Cy p l e (rmn 3 78) s m args below meth c D aK TR mvR false a0 "PackedImageModel" cR_write 11 (some .int) (0, v0, M9)) : ∀ (y2 : Int) (y3 : Int) (y4 : Int) (y6 : Int) (y7 : Int) (y8 : Int) (M : Mm), fR_write_186 y2 y3 y4 y6 y7 y8 M = some (v0, M9) → Wm X 186 [some (.inr 0), none, some (.inl y2), some (.inl y3), some (.inl y4), none, some (.inl y6), some (.inl y7), some (.inl y8), none, none] [] M := by
  intro y2 y3 y4 y6 y7 y8 M hf
  unfold fR_write_186 at hf
  refine x_iload dR_write_186 rfl ?_
  refine x_iconst dR_write_188 ?_
  refine x_ne hf dR_write_189 rfl (fun hf => ?_) (fun hf => ?_)
  · exact x_mask [true, false, true, true, true, false, true, false, true, false, false] (wR_write_271 X _ _ _ _ _ _ hf)
  · refine x_aloadn dR_write_192 rfl ?_
    refine x_getR gR_39 tR_0 rfl dR_write_193 ?_
    refine x_iload dR_write_196 rfl ?_
    refine x_iconst dR_write_198 ?_
    refine x_iadd dR_write_199 ?_
    refine x_iload dR_write_200 rfl ?_
    refine x_iast hf tR_9 (by decide) dR_write_202 (fun M21 hf => ?_)
    refine x_iconst dR_write_203 ?_
    refine x_istore dR_write_204 (by decide) ?_
    exact x_mask [true, false, true, true, true, false, true, false, true, true, false] (wR_write_206 X FU _ _ _ _ _ _ _ hf)
set_option maxRecDepth 10000 in
theorem wR_write_145 {v0 : Int} {M9 : Mm} (X : Cy p l e (rmn 3 78) s m args below meth c D aK TR mvR false a0 "PackedImageModel" cR_write 11 (some .int) (0, v0, M9)) : ∀ (n : Nat) (y2 : Int) (y3 : Int) (y4 : Int) (y5 : Int) (y6 : Int) (y7 : Int) (y8 : Int) (y9 : Int) (M : Mm), fR_write_145 n y2 y3 y4 y5 y6 y7 y8 y9 M = some (v0, M9) → Wm X 145 [some (.inr 0), none, some (.inl y2), some (.inl y3), some (.inl y4), some (.inl y5), some (.inl y6), some (.inl y7), some (.inl y8), some (.inl y9), none] [] M := by
  intro n
  induction n with
  | zero => intro y2 y3 y4 y5 y6 y7 y8 y9 M hf; exact nomatch (show (none : Option (Int × Mm)) = _ from hf)
  | succ n ih =>
    intro y2 y3 y4 y5 y6 y7 y8 y9 M hf
    rw [fR_write_145] at hf
    refine x_iload dR_write_145 rfl ?_
    refine x_iconst dR_write_147 ?_
    refine x_ne hf dR_write_148 rfl (fun hf => ?_) (fun hf => ?_)
    · exact x_mask [true, false, true, true, true, false, true, true, true, false, false] (wR_write_186 X _ _ _ _ _ _ _ hf)
    · refine x_iload dR_write_151 rfl ?_
      refine x_iload dR_write_153 rfl ?_
      refine x_ge hf dR_write_155 rfl (fun hf => ?_) (fun hf => ?_)
      · exact x_mask [true, false, true, true, true, false, true, true, true, false, false] (wR_write_186 X _ _ _ _ _ _ _ hf)
      · refine x_aloadn dR_write_158 rfl ?_
        refine x_getR gR_39 tR_0 rfl dR_write_159 ?_
        refine x_iload dR_write_162 rfl ?_
        refine x_iconst dR_write_164 ?_
        refine x_iadd dR_write_165 ?_
        refine x_iload dR_write_166 rfl ?_
        refine x_bipush dR_write_168 (by decide) ?_
        refine x_irem hf dR_write_170 (fun v26 hf => ?_)
        refine x_iadd dR_write_171 ?_
        refine x_aloadn dR_write_172 rfl ?_
        refine x_getR gR_42 tR_0 rfl dR_write_173 ?_
        refine x_iload dR_write_176 rfl ?_
        refine x_iald hf tR_10 (by decide) dR_write_178 (fun v27 hf => ?_)
        refine x_iast hf tR_9 (by decide) dR_write_179 (fun M28 hf => ?_)
        refine x_iinc dR_write_180 rfl (by decide) ?_
        refine x_goto (tgt := 145) dR_write_183 rfl ?_
        exact x_mask [true, false, true, true, true, true, true, true, true, true, false] (ih _ _ _ _ _ _ _ _ _ hf)
set_option maxRecDepth 10000 in
theorem wR_write_84 {v0 : Int} {M9 : Mm} (X : Cy p l e (rmn 3 78) s m args below meth c D aK TR mvR false a0 "PackedImageModel" cR_write 11 (some .int) (0, v0, M9)) : ∀ (y1 : Int) (y2 : Int) (y3 : Int) (y4 : Int) (y5 : Int) (y6 : Int) (y7 : Int) (y8 : Int) (z1 : Int) (z2 : Int) (M : Mm), fR_write_84 y1 y2 y3 y4 y5 y6 y7 y8 z1 z2 M = some (v0, M9) → Wm X 84 [some (.inr 0), some (.inl y1), some (.inl y2), some (.inl y3), some (.inl y4), some (.inl y5), some (.inl y6), some (.inl y7), some (.inl y8), none, none] [.inl z2, .inl z1, .inr 9] M := by
  intro y1 y2 y3 y4 y5 y6 y7 y8 z1 z2 M hf
  unfold fR_write_84 at hf
  refine x_iconst dR_write_84 ?_
  refine x_aloadn dR_write_85 rfl ?_
  refine x_getR gR_13 tR_0 rfl dR_write_86 ?_
  refine x_iloadn dR_write_89 rfl ?_
  refine x_iald hf tR_1 (by decide) dR_write_90 (fun v8 hf => ?_)
  refine x_imul dR_write_91 ?_
  refine x_iadd dR_write_92 ?_
  refine x_bipush dR_write_93 (by decide) ?_
  refine x_iload dR_write_95 rfl ?_
  refine x_imul dR_write_97 ?_
  refine x_iadd dR_write_98 ?_
  refine x_iast hf tR_9 (by decide) dR_write_99 (fun M9 hf => ?_)
  refine x_aloadn dR_write_100 rfl ?_
  refine x_getR gR_39 tR_0 rfl dR_write_101 ?_
  refine x_iload dR_write_104 rfl ?_
  refine x_iconst dR_write_106 ?_
  refine x_iadd dR_write_107 ?_
  refine x_iload dR_write_108 rfl ?_
  refine x_iast hf tR_9 (by decide) dR_write_110 (fun M10 hf => ?_)
  refine x_aloadn dR_write_111 rfl ?_
  refine x_getR gR_39 tR_0 rfl dR_write_112 ?_
  refine x_iload dR_write_115 rfl ?_
  refine x_iconst dR_write_117 ?_
  refine x_iadd dR_write_118 ?_
  refine x_aloadn dR_write_119 rfl ?_
  refine x_getR gR_26 tR_0 rfl dR_write_120 ?_
  refine x_iloadn dR_write_123 rfl ?_
  refine x_iald hf tR_5 (by decide) dR_write_124 (fun v11 hf => ?_)
  refine x_sipush dR_write_125 (by decide) ?_
  refine x_iandm (an255 _) dR_write_128 ?_
  refine x_iast hf tR_9 (by decide) dR_write_129 (fun M12 hf => ?_)
  refine x_aloadn dR_write_130 rfl ?_
  refine x_iloadn dR_write_131 rfl ?_
  refine x_cvnv hf (kR_layData X.hst) iR_layData lR_110 tR_0 rfl rfl (by decide) (Nat.le_of_ble_eq_true rfl) dR_write_132 (fun _ M13 hf => ?_)
  refine x_iload dR_write_135 rfl ?_
  refine x_bipush dR_write_137 (by decide) ?_
  refine x_idiv hf dR_write_139 (fun v14 hf => ?_)
  refine x_bipush dR_write_140 (by decide) ?_
  refine x_imul dR_write_142 ?_
  refine x_istore dR_write_143 (by decide) ?_
  exact x_mask [true, false, true, true, true, true, true, true, true, true, false] (wR_write_145 X FU _ _ _ _ _ _ _ _ _ hf)
set_option maxRecDepth 10000 in
theorem wR_write_62 {v0 : Int} {M9 : Mm} (X : Cy p l e (rmn 3 78) s m args below meth c D aK TR mvR false a0 "PackedImageModel" cR_write 11 (some .int) (0, v0, M9)) : ∀ (y1 : Int) (y2 : Int) (y3 : Int) (y4 : Int) (y5 : Int) (y6 : Int) (y7 : Int) (z0 : Int) (M : Mm), fR_write_62 y1 y2 y3 y4 y5 y6 y7 z0 M = some (v0, M9) → Wm X 62 [some (.inr 0), some (.inl y1), some (.inl y2), some (.inl y3), some (.inl y4), some (.inl y5), some (.inl y6), some (.inl y7), none, none, none] [.inl z0] M := by
  intro y1 y2 y3 y4 y5 y6 y7 z0 M hf
  unfold fR_write_62 at hf
  refine x_istore dR_write_62 (by decide) ?_
  refine x_aloadn dR_write_64 rfl ?_
  refine x_getR gR_39 tR_0 rfl dR_write_65 ?_
  refine x_iload dR_write_68 rfl ?_
  refine x_aloadn dR_write_70 rfl ?_
  refine x_getR gR_35 tR_0 rfl dR_write_71 ?_
  refine x_iloadn dR_write_74 rfl ?_
  refine x_zald hf tR_8 (by decide) dR_write_75 (fun v7 hf => ?_)
  refine x_eq0 hf dR_write_76 rfl (fun hf => ?_) (fun hf => ?_)
  · refine x_iconst dR_write_83 ?_
    exact x_mask [true, true, true, true, true, true, true, true, true, false, false] (wR_write_84 X _ _ _ _ _ _ _ _ _ _ _ hf)
  · refine x_iconst dR_write_79 ?_
    refine x_goto (tgt := 84) dR_write_80 rfl ?_
    exact x_mask [true, true, true, true, true, true, true, true, true, false, false] (wR_write_84 X _ _ _ _ _ _ _ _ _ _ _ hf)
set_option maxRecDepth 10000 in
theorem wR_write {v0 : Int} {M9 : Mm} (X : Cy p l e (rmn 3 78) s m args below meth c D aK TR mvR false a0 "PackedImageModel" cR_write 11 (some .int) (0, v0, M9)) {x1 : Int} {x2 : Int} {x3 : Int} {x4 : Int} {M : Mm} (hf : fR_write x1 x2 x3 x4 M = some (v0, M9)) : Wm X 0 [some (.inr 0), some (.inl x1), some (.inl x2), some (.inl x3), some (.inl x4), none, none, none, none, none, none] [] M := by
  unfold fR_write at hf
  refine x_aloadn dR_write_0 rfl ?_
  refine x_iloadn dR_write_1 rfl ?_
  refine x_cvni hf (kR_sizeOf X.hst) iR_sizeOf lR_100 tR_0 rfl rfl (by decide) (Nat.le_of_ble_eq_true rfl) dR_write_2 (fun v2 M1 hf => ?_)
  refine x_istore dR_write_5 (by decide) ?_
  refine x_bipush dR_write_7 (by decide) ?_
  refine x_bipush dR_write_9 (by decide) ?_
  refine x_aloadn dR_write_11 rfl ?_
  refine x_getR gR_29 tR_0 rfl dR_write_12 ?_
  refine x_iloadn dR_write_15 rfl ?_
  refine x_iald hf tR_6 (by decide) dR_write_16 (fun v3 hf => ?_)
  refine x_imul dR_write_17 ?_
  refine x_iadd dR_write_18 ?_
  refine x_istore dR_write_19 (by decide) ?_
  refine x_aloadn dR_write_21 rfl ?_
  refine x_getR gR_32 tR_0 rfl dR_write_22 ?_
  refine x_iloadn dR_write_25 rfl ?_
  refine x_iald hf tR_7 (by decide) dR_write_26 (fun v4 hf => ?_)
  refine x_istore dR_write_27 (by decide) ?_
  refine x_iload dR_write_29 rfl ?_
  refine x_iconst dR_write_31 ?_
  refine x_ne hf dR_write_32 rfl (fun hf => ?_) (fun hf => ?_)
  · refine x_iload dR_write_43 rfl ?_
    refine x_iconst dR_write_45 ?_
    refine x_ne hf dR_write_46 rfl (fun hf => ?_) (fun hf => ?_)
    · refine x_iload dR_write_57 rfl ?_
      refine x_csni hf (kR_blocksFor X.hst) iR_blocksFor lR_107 rfl (by decide) (Nat.le_of_ble_eq_true rfl) dR_write_59 (fun v6 M5 hf => ?_)
      exact x_mask [true, true, true, true, true, true, true, true, false, false, false] (wR_write_62 X _ _ _ _ _ _ _ _ _ hf)
    · refine x_iload dR_write_49 rfl ?_
      refine x_bipush dR_write_51 (by decide) ?_
      refine x_idiv hf dR_write_53 (fun v29 hf => ?_)
      refine x_goto (tgt := 62) dR_write_54 rfl ?_
      exact x_mask [true, true, true, true, true, true, true, true, false, false, false] (wR_write_62 X _ _ _ _ _ _ _ _ _ hf)
  · refine x_aloadn dR_write_35 rfl ?_
    refine x_iloadn dR_write_36 rfl ?_
    refine x_cvni hf (kR_pack X.hst) iR_pack lR_104 tR_0 rfl rfl (by decide) (Nat.le_of_ble_eq_true rfl) dR_write_37 (fun v31 M30 hf => ?_)
    refine x_goto (tgt := 62) dR_write_40 rfl ?_
    exact x_mask [true, true, true, true, true, true, true, true, false, false, false] (wR_write_62 X _ _ _ _ _ _ _ _ _ hf)
theorem kR_write {l : Launch} (hl : l.stackTraces = false) {x1 : Int} {x2 : Int} {x3 : Int} {x4 : Int} {M : Mm} (v0 : Int) (M9 : Mm) (hf : fR_write x1 x2 x3 x4 M = some (v0, M9)) : Ct l yR_write (rmn 3 78) TR mvR false (some .int) [.inr 0, .inl x1, .inl x2, .inl x3, .inl x4] M (0, v0, M9) := ct_of hl (by decide) iR_write.1 (Nat.le_of_ble_eq_true rfl) (fun X => wR_write X hf)
def fR_check1_45 (K5 : Int → Int → Int → Mm → Option (Int × Mm)) (y1 y2 y3 z0 : Int) (M : Mm) : Option (Int × Mm) :=
  meq z0 0
    (K5 y1 ((2 * y2) % 65536) (y3 + 1) M)
    (mlxor ((2 * y2) % 65536) 4129 fun v6 =>
    K5 y1 v6 (y3 + 1) M)
def fR_check1_5 : Nat → Int → Int → Int → Mm → Option (Int × Mm)
  | 0, _, _, _, _ => none
  | n+1, y1, y2, y3, M =>
    mlt y3 y1
      (mdiv y3 8 fun v1 =>
      mrd M 13 1024 v1 fun v2 =>
      mrem y3 8 fun v3 =>
      mshr v2 (7 - v3) fun v4 =>
      mshr y2 15 fun v5 =>
      meq v5 (v4 % 2)
        (fR_check1_45 (fR_check1_5 n) y1 y2 y3 0 M)
        (fR_check1_45 (fR_check1_5 n) y1 y2 y3 1 M))
      (some (y2, M))
def fR_check1 (x1 : Int) (M : Mm) : Option (Int × Mm) :=
  fR_check1_5 FU x1 65535 0 M
set_option maxRecDepth 10000 in
theorem wR_check1_45 {v0 : Int} {M9 : Mm} (X : Cy p l e (rmn 0 0) s m args below meth c D aK TR mvR false a0 "PackedImageModel" cR_check1 6 (some .int) (0, v0, M9)) {K5 : Int → Int → Int → Mm → Option (Int × Mm)} (hK5 : ∀ (y1 : Int) (y2 : Int) (y3 : Int) (M : Mm), K5 y1 y2 y3 M = some (v0, M9) → Wm X 5 [some (.inr 0), some (.inl y1), some (.inl y2), some (.inl y3), none, none] [] M) : ∀ (y1 : Int) (y2 : Int) (y3 : Int) (z0 : Int) (M : Mm), fR_check1_45 K5 y1 y2 y3 z0 M = some (v0, M9) → Wm X 45 [some (.inr 0), some (.inl y1), some (.inl y2), some (.inl y3), none, none] [.inl z0] M := by
  intro y1 y2 y3 z0 M hf
  unfold fR_check1_45 at hf
  refine x_istore dR_check1_45 (by decide) ?_
  refine x_iconst dR_check1_47 ?_
  refine x_iloadn dR_check1_48 rfl ?_
  refine x_imul dR_check1_49 ?_
  refine x_ldc (n := 65535) qR_131 rfl dR_check1_50 ?_
  refine x_iandm (an65535 _) dR_check1_52 ?_
  refine x_istoren dR_check1_53 (by decide) ?_
  refine x_iload dR_check1_54 rfl ?_
  refine x_eq0 hf dR_check1_56 rfl (fun hf => ?_) (fun hf => ?_)
  · refine x_iloadn dR_check1_67 rfl ?_
    refine x_istoren dR_check1_68 (by decide) ?_
    refine x_iinc dR_check1_69 rfl (by decide) ?_
    refine x_goto (tgt := 5) dR_check1_72 rfl ?_
    exact x_mask [true, true, true, true, false, false] (hK5 _ _ _ _ hf)
  · refine x_iloadn dR_check1_59 rfl ?_
    refine x_sipush dR_check1_60 (by decide) ?_
    refine x_ixor hf dR_check1_63 (fun v6 hf => ?_)
    refine x_goto (tgt := 68) dR_check1_64 rfl ?_
    refine x_istoren dR_check1_68 (by decide) ?_
    refine x_iinc dR_check1_69 rfl (by decide) ?_
    refine x_goto (tgt := 5) dR_check1_72 rfl ?_
    exact x_mask [true, true, true, true, false, false] (hK5 _ _ _ _ hf)
set_option maxRecDepth 10000 in
theorem wR_check1_5 {v0 : Int} {M9 : Mm} (X : Cy p l e (rmn 0 0) s m args below meth c D aK TR mvR false a0 "PackedImageModel" cR_check1 6 (some .int) (0, v0, M9)) : ∀ (n : Nat) (y1 : Int) (y2 : Int) (y3 : Int) (M : Mm), fR_check1_5 n y1 y2 y3 M = some (v0, M9) → Wm X 5 [some (.inr 0), some (.inl y1), some (.inl y2), some (.inl y3), none, none] [] M := by
  intro n
  induction n with
  | zero => intro y1 y2 y3 M hf; exact nomatch (show (none : Option (Int × Mm)) = _ from hf)
  | succ n ih =>
    intro y1 y2 y3 M hf
    rw [fR_check1_5] at hf
    refine x_iloadn dR_check1_5 rfl ?_
    refine x_iloadn dR_check1_6 rfl ?_
    refine x_ge hf dR_check1_7 rfl (fun hf => ?_) (fun hf => ?_)
    · refine x_iloadn dR_check1_75 rfl ?_
      exact x_iret (rt_n hf) rfl dR_check1_76
    · refine x_aloadn dR_check1_10 rfl ?_
      refine x_getR gR_51 tR_0 rfl dR_check1_11 ?_
      refine x_iloadn dR_check1_14 rfl ?_
      refine x_bipush dR_check1_15 (by decide) ?_
      refine x_idiv hf dR_check1_17 (fun v1 hf => ?_)
      refine x_iald hf tR_13 (by decide) dR_check1_18 (fun v2 hf => ?_)
      refine x_bipush dR_check1_19 (by decide) ?_
      refine x_iloadn dR_check1_21 rfl ?_
      refine x_bipush dR_check1_22 (by decide) ?_
      refine x_irem hf dR_check1_24 (fun v3 hf => ?_)
      refine x_isub dR_check1_25 ?_
      refine x_ishr hf dR_check1_26 (fun v4 hf => ?_)
      refine x_iconst dR_check1_27 ?_
      refine x_iandm (an1 _) dR_check1_28 ?_
      refine x_istore dR_check1_29 (by decide) ?_
      refine x_iloadn dR_check1_31 rfl ?_
      refine x_bipush dR_check1_32 (by decide) ?_
      refine x_ishr hf dR_check1_34 (fun v5 hf => ?_)
      refine x_iload dR_check1_35 rfl ?_
      refine x_eq hf dR_check1_37 rfl (fun hf => ?_) (fun hf => ?_)
      · refine x_iconst dR_check1_44 ?_
        exact x_mask [true, true, true, true, false, false] (wR_check1_45 X ih _ _ _ _ _ hf)
      · refine x_iconst dR_check1_40 ?_
        refine x_goto (tgt := 45) dR_check1_41 rfl ?_
        exact x_mask [true, true, true, true, false, false] (wR_check1_45 X ih _ _ _ _ _ hf)
set_option maxRecDepth 10000 in
theorem wR_check1 {v0 : Int} {M9 : Mm} (X : Cy p l e (rmn 0 0) s m args below meth c D aK TR mvR false a0 "PackedImageModel" cR_check1 6 (some .int) (0, v0, M9)) {x1 : Int} {M : Mm} (hf : fR_check1 x1 M = some (v0, M9)) : Wm X 0 [some (.inr 0), some (.inl x1), none, none, none, none] [] M := by
  unfold fR_check1 at hf
  refine x_ldc (n := 65535) qR_131 rfl dR_check1_0 ?_
  refine x_istoren dR_check1_2 (by decide) ?_
  refine x_iconst dR_check1_3 ?_
  refine x_istoren dR_check1_4 (by decide) ?_
  exact x_mask [true, true, true, true, false, false] (wR_check1_5 X FU _ _ _ _ hf)
theorem kR_check1 {l : Launch} (hl : l.stackTraces = false) {x1 : Int} {M : Mm} (v0 : Int) (M9 : Mm) (hf : fR_check1 x1 M = some (v0, M9)) : Ct l yR_check1 (rmn 0 0) TR mvR false (some .int) [.inr 0, .inl x1] M (0, v0, M9) := ct_of hl (by decide) iR_check1.1 (Nat.le_of_ble_eq_true rfl) (fun X => wR_check1 X hf)
def fR_seal (M : Mm) : Option (Int × Mm) :=
  mput M 0 0 0 fun M1 =>
  mcn (fR_check1 112 M1) fun v3 M2 =>
  mdiv v3 256 fun v4 =>
  mwr M2 13 1024 14 v4 fun M5 =>
  mrem v3 256 fun v6 =>
  mwr M5 13 1024 15 v6 fun M7 =>
  mpuz M7 0 17 0 fun M8 =>
  some (0, M8)
set_option maxRecDepth 10000 in
theorem wR_seal {v0 : Int} {M9 : Mm} (X : Cy p l e (rmn 1 25) s m args below meth c D aK TR mvR false a0 "PackedImageModel" cR_seal 2 none (0, v0, M9)) {M : Mm} (hf : fR_seal M = some (v0, M9)) : Wm X 0 [some (.inr 0), none] [] M := by
  unfold fR_seal at hf
  refine x_aloadn dR_seal_0 rfl ?_
  refine x_iconst dR_seal_1 ?_
  refine x_put hf gR_69 pR_0 tR_0 rfl dR_seal_2 (fun M1 hf => ?_)
  refine x_aloadn dR_seal_5 rfl ?_
  refine x_bipush dR_seal_6 (by decide) ?_
  refine x_cvni hf (kR_check1 X.hst) iR_check1 lR_136 tR_0 rfl rfl (by decide) (Nat.le_of_ble_eq_true rfl) dR_seal_8 (fun v3 M2 hf => ?_)
  refine x_istoren dR_seal_11 (by decide) ?_
  refine x_aloadn dR_seal_12 rfl ?_
  refine x_getR gR_51 tR_0 rfl dR_seal_13 ?_
  refine x_bipush dR_seal_16 (by decide) ?_
  refine x_iloadn dR_seal_18 rfl ?_
  refine x_sipush dR_seal_19 (by decide) ?_
  refine x_idiv hf dR_seal_22 (fun v4 hf => ?_)
  refine x_iast hf tR_13 (by decide) dR_seal_23 (fun M5 hf => ?_)
  refine x_aloadn dR_seal_24 rfl ?_
  refine x_getR gR_51 tR_0 rfl dR_seal_25 ?_
  refine x_bipush dR_seal_28 (by decide) ?_
  refine x_iloadn dR_seal_30 rfl ?_
  refine x_sipush dR_seal_31 (by decide) ?_
  refine x_irem hf dR_seal_34 (fun v6 hf => ?_)
  refine x_iast hf tR_13 (by decide) dR_seal_35 (fun M7 hf => ?_)
  refine x_aloadn dR_seal_36 rfl ?_
  refine x_iconst dR_seal_37 ?_
  refine x_putz hf gR_132 pR_17 tR_0 rfl dR_seal_38 (fun M8 hf => ?_)
  exact x_vret ⟨_, rt_n hf⟩ rfl dR_seal_41
theorem kR_seal {l : Launch} (hl : l.stackTraces = false) {M : Mm} (v0 : Int) (M9 : Mm) (hf : fR_seal M = some (v0, M9)) : Ct l yR_seal (rmn 1 25) TR mvR false none [.inr 0] M (0, v0, M9) := ct_of hl (by decide) iR_seal.1 (Nat.le_of_ble_eq_true rfl) (fun X => wR_seal X hf)
def fR_build_194 : Nat → Int → Int → Int → Int → Mm → Option (Int × Mm)
  | 0, _, _, _, _, _ => none
  | n+1, y1, y2, y4, y5, M =>
    mlt y5 1024
      (mrd M 9 1024 y5 fun v9 =>
      mwr M 13 1024 y5 v9 fun M10 =>
      (fR_build_194 n) y1 y2 y4 (y5 + 1) M10)
      (mwr M 13 1024 0 225 fun M3 =>
      mwr M3 13 1024 1 245 fun M4 =>
      mwr M4 13 1024 2 y1 fun M5 =>
      mwr M5 13 1024 3 y2 fun M6 =>
      mwr M6 13 1024 4 y4 fun M7 =>
      mcn (fR_seal M7) fun _ M8 =>
      some (y4, M8))
def fR_build_178 (y1 y2 y4 : Int) (M : Mm) : Option (Int × Mm) :=
  mlt 64 y4
    (mcn (fR_fail 2 M) fun v12 M11 =>
    some (v12, M11))
    (fR_build_194 FU y1 y2 y4 0 M)
def fR_build_124 : Nat → Int → Int → Int → Int → Int → Mm → Option (Int × Mm)
  | 0, _, _, _, _, _, _ => none
  | n+1, y1, y2, y3, y4, y5, M =>
    mlt y5 (M 0 1)
      (mlt 64 y4
        (fR_build_178 y1 y2 y4 M)
        (mrd M 5 16 y5 fun v13 =>
        mlt 0 v13
          (mland y1 2 fun v14 =>
          meq v14 0
            (mcn (fR_write y5 y3 y4 0 M) fun v16 M15 =>
            (fR_build_124 n) y1 y2 y3 v16 (y5 + 1) M15)
            (mcn (fR_write y5 y3 y4 1 M) fun v18 M17 =>
            (fR_build_124 n) y1 y2 y3 v18 (y5 + 1) M17))
          ((fR_build_124 n) y1 y2 y3 y4 (y5 + 1) M)))
      (fR_build_178 y1 y2 y4 M)
def fR_build_54 : Nat → Int → Int → Int → Mm → Option (Int × Mm)
  | 0, _, _, _, _ => none
  | n+1, y1, y2, y3, M =>
    mlt y3 (M 0 1)
      (mrd M 5 16 y3 fun v19 =>
      meq v19 0
        ((fR_build_54 n) y1 y2 (y3 + 1) M)
        (mcn (fR_choose y3 y1 M) fun _ M20 =>
        mwr M20 6 16 y3 y2 fun M21 =>
        mrd M21 8 16 y3 fun v22 =>
        meq v22 0
          ((fR_build_54 n) y1 (y2 + 1) (y3 + 1) M21)
          ((fR_build_54 n) y1 (y2 + 2) (y3 + 1) M21)))
      (mdiv (y2 + 1) 2 fun v2 =>
      fR_build_124 FU y1 y2 (1 + v2) (1 + v2) 0 M)
def fR_build_30 : Nat → Int → Int → Mm → Option (Int × Mm)
  | 0, _, _, _ => none
  | n+1, y1, y2, M =>
    mlt y2 1024
      (mwr M 9 1024 y2 0 fun M23 =>
      (fR_build_30 n) y1 (y2 + 1) M23)
      (fR_build_54 FU y1 0 0 M)
def fR_build_16 (y1 z1 : Int) (M : Mm) : Option (Int × Mm) :=
  mput M 0 0 z1 fun M1 =>
  mlt 0 (M1 0 0)
    (some (0, M1))
    (fR_build_30 FU y1 0 M1)
def fR_build_11 (y1 : Int) (M : Mm) : Option (Int × Mm) :=
  fR_build_16 y1 1 M
def fR_build (x1 : Int) (M : Mm) : Option (Int × Mm) :=
  mlt x1 0
    (fR_build_11 x1 M)
    (mlt 7 x1
      (fR_build_11 x1 M)
      (fR_build_16 x1 0 M))
set_option maxRecDepth 10000 in
theorem wR_build_194 {v0 : Int} {M9 : Mm} (X : Cy p l e (rmn 4 108) s m args below meth c D aK TR mvR false a0 "PackedImageModel" cR_build 6 (some .int) (0, v0, M9)) : ∀ (n : Nat) (y1 : Int) (y2 : Int) (y4 : Int) (y5 : Int) (M : Mm), fR_build_194 n y1 y2 y4 y5 M = some (v0, M9) → Wm X 194 [some (.inr 0), some (.inl y1), some (.inl y2), none, some (.inl y4), some (.inl y5)] [] M := by
  intro n
  induction n with
  | zero => intro y1 y2 y4 y5 M hf; exact nomatch (show (none : Option (Int × Mm)) = _ from hf)
  | succ n ih =>
    intro y1 y2 y4 y5 M hf
    rw [fR_build_194] at hf
    refine x_iload dR_build_194 rfl ?_
    refine x_sipush dR_build_196 (by decide) ?_
    refine x_ge hf dR_build_199 rfl (fun hf => ?_) (fun hf => ?_)
    · refine x_aloadn dR_build_222 rfl ?_
      refine x_getR gR_51 tR_0 rfl dR_build_223 ?_
      refine x_iconst dR_build_226 ?_
      refine x_sipush dR_build_227 (by decide) ?_
      refine x_iast hf tR_13 (by decide) dR_build_230 (fun M3 hf => ?_)
      refine x_aloadn dR_build_231 rfl ?_
      refine x_getR gR_51 tR_0 rfl dR_build_232 ?_
      refine x_iconst dR_build_235 ?_
      refine x_sipush dR_build_236 (by decide) ?_
      refine x_iast hf tR_13 (by decide) dR_build_239 (fun M4 hf => ?_)
      refine x_aloadn dR_build_240 rfl ?_
      refine x_getR gR_51 tR_0 rfl dR_build_241 ?_
      refine x_iconst dR_build_244 ?_
      refine x_iloadn dR_build_245 rfl ?_
      refine x_iast hf tR_13 (by decide) dR_build_246 (fun M5 hf => ?_)
      refine x_aloadn dR_build_247 rfl ?_
      refine x_getR gR_51 tR_0 rfl dR_build_248 ?_
      refine x_iconst dR_build_251 ?_
      refine x_iloadn dR_build_252 rfl ?_
      refine x_iast hf tR_13 (by decide) dR_build_253 (fun M6 hf => ?_)
      refine x_aloadn dR_build_254 rfl ?_
      refine x_getR gR_51 tR_0 rfl dR_build_255 ?_
      refine x_iconst dR_build_258 ?_
      refine x_iload dR_build_259 rfl ?_
      refine x_iast hf tR_13 (by decide) dR_build_261 (fun M7 hf => ?_)
      refine x_aloadn dR_build_262 rfl ?_
      refine x_cvnv hf (kR_seal X.hst) iR_seal lR_128 tR_0 rfl rfl (by decide) (Nat.le_of_ble_eq_true rfl) dR_build_263 (fun _ M8 hf => ?_)
      refine x_iload dR_build_266 rfl ?_
      exact x_iret (rt_n hf) rfl dR_build_268
    · refine x_aloadn dR_build_202 rfl ?_
      refine x_getR gR_51 tR_0 rfl dR_build_203 ?_
      refine x_iload dR_build_206 rfl ?_
      refine x_aloadn dR_build_208 rfl ?_
      refine x_getR gR_39 tR_0 rfl dR_build_209 ?_
      refine x_iload dR_build_212 rfl ?_
      refine x_iald hf tR_9 (by decide) dR_build_214 (fun v9 hf => ?_)
      refine x_iast hf tR_13 (by decide) dR_build_215 (fun M10 hf => ?_)
      refine x_iinc dR_build_216 rfl (by decide) ?_
      refine x_goto (tgt := 194) dR_build_219 rfl ?_
      exact x_mask [true, true, true, false, true, true] (ih _ _ _ _ _ hf)
set_option maxRecDepth 10000 in
theorem wR_build_178 {v0 : Int} {M9 : Mm} (X : Cy p l e (rmn 4 108) s m args below meth c D aK TR mvR false a0 "PackedImageModel" cR_build 6 (some .int) (0, v0, M9)) : ∀ (y1 : Int) (y2 : Int) (y4 : Int) (M : Mm), fR_build_178 y1 y2 y4 M = some (v0, M9) → Wm X 178 [some (.inr 0), some (.inl y1), some (.inl y2), none, some (.inl y4), none] [] M := by
  intro y1 y2 y4 M hf
  unfold fR_build_178 at hf
  refine x_iload dR_build_178 rfl ?_
  refine x_bipush dR_build_180 (by decide) ?_
  refine x_le hf dR_build_182 rfl (fun hf => ?_) (fun hf => ?_)
  · refine x_iconst dR_build_191 ?_
    refine x_istore dR_build_192 (by decide) ?_
    exact x_mask [true, true, true, false, true, true] (wR_build_194 X FU _ _ _ _ _ hf)
  · refine x_aloadn dR_build_185 rfl ?_
    refine x_iconst dR_build_186 ?_
    refine x_cvni hf (kR_fail X.hst) iR_fail lR_125 tR_0 rfl rfl (by decide) (Nat.le_of_ble_eq_true rfl) dR_build_187 (fun v12 M11 hf => ?_)
    exact x_iret (rt_n hf) rfl dR_build_190
set_option maxRecDepth 10000 in
theorem wR_build_124 {v0 : Int} {M9 : Mm} (X : Cy p l e (rmn 4 108) s m args below meth c D aK TR mvR false a0 "PackedImageModel" cR_build 6 (some .int) (0, v0, M9)) : ∀ (n : Nat) (y1 : Int) (y2 : Int) (y3 : Int) (y4 : Int) (y5 : Int) (M : Mm), fR_build_124 n y1 y2 y3 y4 y5 M = some (v0, M9) → Wm X 124 [some (.inr 0), some (.inl y1), some (.inl y2), some (.inl y3), some (.inl y4), some (.inl y5)] [] M := by
  intro n
  induction n with
  | zero => intro y1 y2 y3 y4 y5 M hf; exact nomatch (show (none : Option (Int × Mm)) = _ from hf)
  | succ n ih =>
    intro y1 y2 y3 y4 y5 M hf
    rw [fR_build_124] at hf
    refine x_iload dR_build_124 rfl ?_
    refine x_aloadn dR_build_126 rfl ?_
    refine x_getI gR_7 tR_0 rfl dR_build_127 ?_
    refine x_ge hf dR_build_130 rfl (fun hf => ?_) (fun hf => ?_)
    · exact x_mask [true, true, true, false, true, false] (wR_build_178 X _ _ _ _ hf)
    · refine x_iload dR_build_133 rfl ?_
      refine x_bipush dR_build_135 (by decide) ?_
      refine x_gt hf dR_build_137 rfl (fun hf => ?_) (fun hf => ?_)
      · exact x_mask [true, true, true, false, true, false] (wR_build_178 X _ _ _ _ hf)
      · refine x_aloadn dR_build_140 rfl ?_
        refine x_getR gR_26 tR_0 rfl dR_build_141 ?_
        refine x_iload dR_build_144 rfl ?_
        refine x_iald hf tR_5 (by decide) dR_build_146 (fun v13 hf => ?_)
        refine x_le0 hf dR_build_147 rfl (fun hf => ?_) (fun hf => ?_)
        · refine x_iinc dR_build_172 rfl (by decide) ?_
          refine x_goto (tgt := 124) dR_build_175 rfl ?_
          exact x_mask [true, true, true, true, true, true] (ih _ _ _ _ _ _ hf)
        · refine x_aloadn dR_build_150 rfl ?_
          refine x_iload dR_build_151 rfl ?_
          refine x_iloadn dR_build_153 rfl ?_
          refine x_iload dR_build_154 rfl ?_
          refine x_iloadn dR_build_156 rfl ?_
          refine x_iconst dR_build_157 ?_
          refine x_iand hf dR_build_158 (fun v14 hf => ?_)
          refine x_eq0 hf dR_build_159 rfl (fun hf => ?_) (fun hf => ?_)
          · refine x_iconst dR_build_166 ?_
            refine x_cvni hf (kR_write X.hst) iR_write lR_121 tR_0 rfl rfl (by decide) (Nat.le_of_ble_eq_true rfl) dR_build_167 (fun v16 M15 hf => ?_)
            refine x_istore dR_build_170 (by decide) ?_
            refine x_iinc dR_build_172 rfl (by decide) ?_
            refine x_goto (tgt := 124) dR_build_175 rfl ?_
            exact x_mask [true, true, true, true, true, true] (ih _ _ _ _ _ _ hf)
          · refine x_iconst dR_build_162 ?_
            refine x_goto (tgt := 167) dR_build_163 rfl ?_
            refine x_cvni hf (kR_write X.hst) iR_write lR_121 tR_0 rfl rfl (by decide) (Nat.le_of_ble_eq_true rfl) dR_build_167 (fun v18 M17 hf => ?_)
            refine x_istore dR_build_170 (by decide) ?_
            refine x_iinc dR_build_172 rfl (by decide) ?_
            refine x_goto (tgt := 124) dR_build_175 rfl ?_
            exact x_mask [true, true, true, true, true, true] (ih _ _ _ _ _ _ hf)
set_option maxRecDepth 10000 in
theorem wR_build_54 {v0 : Int} {M9 : Mm} (X : Cy p l e (rmn 4 108) s m args below meth c D aK TR mvR false a0 "PackedImageModel" cR_build 6 (some .int) (0, v0, M9)) : ∀ (n : Nat) (y1 : Int) (y2 : Int) (y3 : Int) (M : Mm), fR_build_54 n y1 y2 y3 M = some (v0, M9) → Wm X 54 [some (.inr 0), some (.inl y1), some (.inl y2), some (.inl y3), none, none] [] M := by
  intro n
  induction n with
  | zero => intro y1 y2 y3 M hf; exact nomatch (show (none : Option (Int × Mm)) = _ from hf)
  | succ n ih =>
    intro y1 y2 y3 M hf
    rw [fR_build_54] at hf
    refine x_iloadn dR_build_54 rfl ?_
    refine x_aloadn dR_build_55 rfl ?_
    refine x_getI gR_7 tR_0 rfl dR_build_56 ?_
    refine x_ge hf dR_build_59 rfl (fun hf => ?_) (fun hf => ?_)
    · refine x_iconst dR_build_110 ?_
      refine x_iloadn dR_build_111 rfl ?_
      refine x_iconst dR_build_112 ?_
      refine x_iadd dR_build_113 ?_
      refine x_iconst dR_build_114 ?_
      refine x_idiv hf dR_build_115 (fun v2 hf => ?_)
      refine x_iadd dR_build_116 ?_
      refine x_istoren dR_build_117 (by decide) ?_
      refine x_iloadn dR_build_118 rfl ?_
      refine x_istore dR_build_119 (by decide) ?_
      refine x_iconst dR_build_121 ?_
      refine x_istore dR_build_122 (by decide) ?_
      exact x_mask [true, true, true, true, true, true] (wR_build_124 X FU _ _ _ _ _ _ hf)
    · refine x_aloadn dR_build_62 rfl ?_
      refine x_getR gR_26 tR_0 rfl dR_build_63 ?_
      refine x_iloadn dR_build_66 rfl ?_
      refine x_iald hf tR_5 (by decide) dR_build_67 (fun v19 hf => ?_)
      refine x_ne0 hf dR_build_68 rfl (fun hf => ?_) (fun hf => ?_)
      · refine x_aloadn dR_build_74 rfl ?_
        refine x_iloadn dR_build_75 rfl ?_
        refine x_iloadn dR_build_76 rfl ?_
        refine x_cvnv hf (kR_choose X.hst) iR_choose lR_117 tR_0 rfl rfl (by decide) (Nat.le_of_ble_eq_true rfl) dR_build_77 (fun _ M20 hf => ?_)
        refine x_aloadn dR_build_80 rfl ?_
        refine x_getR gR_29 tR_0 rfl dR_build_81 ?_
        refine x_iloadn dR_build_84 rfl ?_
        refine x_iloadn dR_build_85 rfl ?_
        refine x_iast hf tR_6 (by decide) dR_build_86 (fun M21 hf => ?_)
        refine x_iloadn dR_build_87 rfl ?_
        refine x_aloadn dR_build_88 rfl ?_
        refine x_getR gR_35 tR_0 rfl dR_build_89 ?_
        refine x_iloadn dR_build_92 rfl ?_
        refine x_zald hf tR_8 (by decide) dR_build_93 (fun v22 hf => ?_)
        refine x_eq0 hf dR_build_94 rfl (fun hf => ?_) (fun hf => ?_)
        · refine x_iconst dR_build_101 ?_
          refine x_iadd dR_build_102 ?_
          refine x_istoren dR_build_103 (by decide) ?_
          refine x_iinc dR_build_104 rfl (by decide) ?_
          refine x_goto (tgt := 54) dR_build_107 rfl ?_
          exact x_mask [true, true, true, true, false, false] (ih _ _ _ _ hf)
        · refine x_iconst dR_build_97 ?_
          refine x_goto (tgt := 102) dR_build_98 rfl ?_
          refine x_iadd dR_build_102 ?_
          refine x_istoren dR_build_103 (by decide) ?_
          refine x_iinc dR_build_104 rfl (by decide) ?_
          refine x_goto (tgt := 54) dR_build_107 rfl ?_
          exact x_mask [true, true, true, true, false, false] (ih _ _ _ _ hf)
      · refine x_goto (tgt := 104) dR_build_71 rfl ?_
        refine x_iinc dR_build_104 rfl (by decide) ?_
        refine x_goto (tgt := 54) dR_build_107 rfl ?_
        exact x_mask [true, true, true, true, false, false] (ih _ _ _ _ hf)
set_option maxRecDepth 10000 in
theorem wR_build_30 {v0 : Int} {M9 : Mm} (X : Cy p l e (rmn 4 108) s m args below meth c D aK TR mvR false a0 "PackedImageModel" cR_build 6 (some .int) (0, v0, M9)) : ∀ (n : Nat) (y1 : Int) (y2 : Int) (M : Mm), fR_build_30 n y1 y2 M = some (v0, M9) → Wm X 30 [some (.inr 0), some (.inl y1), some (.inl y2), none, none, none] [] M := by
  intro n
  induction n with
  | zero => intro y1 y2 M hf; exact nomatch (show (none : Option (Int × Mm)) = _ from hf)
  | succ n ih =>
    intro y1 y2 M hf
    rw [fR_build_30] at hf
    refine x_iloadn dR_build_30 rfl ?_
    refine x_sipush dR_build_31 (by decide) ?_
    refine x_ge hf dR_build_34 rfl (fun hf => ?_) (fun hf => ?_)
    · refine x_iconst dR_build_50 ?_
      refine x_istoren dR_build_51 (by decide) ?_
      refine x_iconst dR_build_52 ?_
      refine x_istoren dR_build_53 (by decide) ?_
      exact x_mask [true, true, true, true, false, false] (wR_build_54 X FU _ _ _ _ hf)
    · refine x_aloadn dR_build_37 rfl ?_
      refine x_getR gR_39 tR_0 rfl dR_build_38 ?_
      refine x_iloadn dR_build_41 rfl ?_
      refine x_iconst dR_build_42 ?_
      refine x_iast hf tR_9 (by decide) dR_build_43 (fun M23 hf => ?_)
      refine x_iinc dR_build_44 rfl (by decide) ?_
      refine x_goto (tgt := 30) dR_build_47 rfl ?_
      exact x_mask [true, true, true, false, false, false] (ih _ _ _ hf)
set_option maxRecDepth 10000 in
theorem wR_build_16 {v0 : Int} {M9 : Mm} (X : Cy p l e (rmn 4 108) s m args below meth c D aK TR mvR false a0 "PackedImageModel" cR_build 6 (some .int) (0, v0, M9)) : ∀ (y1 : Int) (z1 : Int) (M : Mm), fR_build_16 y1 z1 M = some (v0, M9) → Wm X 16 [some (.inr 0), some (.inl y1), none, none, none, none] [.inl z1, .inr 0] M := by
  intro y1 z1 M hf
  unfold fR_build_16 at hf
  refine x_put hf gR_69 pR_0 tR_0 rfl dR_build_16 (fun M1 hf => ?_)
  refine x_aloadn dR_build_19 rfl ?_
  refine x_getI gR_69 tR_0 rfl dR_build_20 ?_
  refine x_le0 hf dR_build_23 rfl (fun hf => ?_) (fun hf => ?_)
  · refine x_iconst dR_build_28 ?_
    refine x_istoren dR_build_29 (by decide) ?_
    exact x_mask [true, true, true, false, false, false] (wR_build_30 X FU _ _ _ hf)
  · refine x_iconst dR_build_26 ?_
    exact x_iret (rt_n hf) rfl dR_build_27
set_option maxRecDepth 10000 in
theorem wR_build_11 {v0 : Int} {M9 : Mm} (X : Cy p l e (rmn 4 108) s m args below meth c D aK TR mvR false a0 "PackedImageModel" cR_build 6 (some .int) (0, v0, M9)) : ∀ (y1 : Int) (M : Mm), fR_build_11 y1 M = some (v0, M9) → Wm X 11 [some (.inr 0), some (.inl y1), none, none, none, none] [.inr 0] M := by
  intro y1 M hf
  unfold fR_build_11 at hf
  refine x_iconst dR_build_11 ?_
  refine x_goto (tgt := 16) dR_build_12 rfl ?_
  exact x_mask [true, true, false, false, false, false] (wR_build_16 X _ _ _ hf)
set_option maxRecDepth 10000 in
theorem wR_build {v0 : Int} {M9 : Mm} (X : Cy p l e (rmn 4 108) s m args below meth c D aK TR mvR false a0 "PackedImageModel" cR_build 6 (some .int) (0, v0, M9)) {x1 : Int} {M : Mm} (hf : fR_build x1 M = some (v0, M9)) : Wm X 0 [some (.inr 0), some (.inl x1), none, none, none, none] [] M := by
  unfold fR_build at hf
  refine x_aloadn dR_build_0 rfl ?_
  refine x_iloadn dR_build_1 rfl ?_
  refine x_lt0 hf dR_build_2 rfl (fun hf => ?_) (fun hf => ?_)
  · exact x_mask [true, true, false, false, false, false] (wR_build_11 X _ _ hf)
  · refine x_iloadn dR_build_5 rfl ?_
    refine x_bipush dR_build_6 (by decide) ?_
    refine x_le hf dR_build_8 rfl (fun hf => ?_) (fun hf => ?_)
    · refine x_iconst dR_build_15 ?_
      exact x_mask [true, true, false, false, false, false] (wR_build_16 X _ _ _ hf)
    · exact x_mask [true, true, false, false, false, false] (wR_build_11 X _ _ hf)
theorem kR_build {l : Launch} (hl : l.stackTraces = false) {x1 : Int} {M : Mm} (v0 : Int) (M9 : Mm) (hf : fR_build x1 M = some (v0, M9)) : Ct l yR_build (rmn 4 108) TR mvR false (some .int) [.inr 0, .inl x1] M (0, v0, M9) := ct_of hl (by decide) iR_build.1 (Nat.le_of_ble_eq_true rfl) (fun X => wR_build X hf)
def fR_peek_17 (y1 z1 : Int) (M : Mm) : Option (Int × Mm) :=
  mput M 0 0 z1 fun M1 =>
  mlt 0 (M1 0 0)
    (some (0, M1))
    (mrd M1 13 1024 y1 fun v2 =>
    some (v2, M1))
def fR_peek_12 (y1 : Int) (M : Mm) : Option (Int × Mm) :=
  fR_peek_17 y1 1 M
def fR_peek (x1 : Int) (M : Mm) : Option (Int × Mm) :=
  mlt x1 0
    (fR_peek_12 x1 M)
    (mlt 1023 x1
      (fR_peek_12 x1 M)
      (fR_peek_17 x1 0 M))
set_option maxRecDepth 10000 in
theorem wR_peek_17 {v0 : Int} {M9 : Mm} (X : Cy p l e (rmn 0 0) s m args below meth c D aK TR mvR false a0 "PackedImageModel" cR_peek 2 (some .int) (0, v0, M9)) : ∀ (y1 : Int) (z1 : Int) (M : Mm), fR_peek_17 y1 z1 M = some (v0, M9) → Wm X 17 [some (.inr 0), some (.inl y1)] [.inl z1, .inr 0] M := by
  intro y1 z1 M hf
  unfold fR_peek_17 at hf
  refine x_put hf gR_69 pR_0 tR_0 rfl dR_peek_17 (fun M1 hf => ?_)
  refine x_aloadn dR_peek_20 rfl ?_
  refine x_getI gR_69 tR_0 rfl dR_peek_21 ?_
  refine x_le0 hf dR_peek_24 rfl (fun hf => ?_) (fun hf => ?_)
  · refine x_aloadn dR_peek_31 rfl ?_
    refine x_getR gR_51 tR_0 rfl dR_peek_32 ?_
    refine x_iloadn dR_peek_35 rfl ?_
    refine x_iald hf tR_13 (by decide) dR_peek_36 (fun v2 hf => ?_)
    exact x_iret (rt_n hf) rfl dR_peek_37
  · refine x_iconst dR_peek_27 ?_
    refine x_goto (tgt := 37) dR_peek_28 rfl ?_
    exact x_iret (rt_n hf) rfl dR_peek_37
set_option maxRecDepth 10000 in
theorem wR_peek_12 {v0 : Int} {M9 : Mm} (X : Cy p l e (rmn 0 0) s m args below meth c D aK TR mvR false a0 "PackedImageModel" cR_peek 2 (some .int) (0, v0, M9)) : ∀ (y1 : Int) (M : Mm), fR_peek_12 y1 M = some (v0, M9) → Wm X 12 [some (.inr 0), some (.inl y1)] [.inr 0] M := by
  intro y1 M hf
  unfold fR_peek_12 at hf
  refine x_iconst dR_peek_12 ?_
  refine x_goto (tgt := 17) dR_peek_13 rfl ?_
  exact x_mask [true, true] (wR_peek_17 X _ _ _ hf)
set_option maxRecDepth 10000 in
theorem wR_peek {v0 : Int} {M9 : Mm} (X : Cy p l e (rmn 0 0) s m args below meth c D aK TR mvR false a0 "PackedImageModel" cR_peek 2 (some .int) (0, v0, M9)) {x1 : Int} {M : Mm} (hf : fR_peek x1 M = some (v0, M9)) : Wm X 0 [some (.inr 0), some (.inl x1)] [] M := by
  unfold fR_peek at hf
  refine x_aloadn dR_peek_0 rfl ?_
  refine x_iloadn dR_peek_1 rfl ?_
  refine x_lt0 hf dR_peek_2 rfl (fun hf => ?_) (fun hf => ?_)
  · exact x_mask [true, true] (wR_peek_12 X _ _ hf)
  · refine x_iloadn dR_peek_5 rfl ?_
    refine x_sipush dR_peek_6 (by decide) ?_
    refine x_le hf dR_peek_9 rfl (fun hf => ?_) (fun hf => ?_)
    · refine x_iconst dR_peek_16 ?_
      exact x_mask [true, true] (wR_peek_17 X _ _ _ hf)
    · exact x_mask [true, true] (wR_peek_12 X _ _ hf)
theorem kR_peek {l : Launch} (hl : l.stackTraces = false) {x1 : Int} {M : Mm} (v0 : Int) (M9 : Mm) (hf : fR_peek x1 M = some (v0, M9)) : Ct l yR_peek (rmn 0 0) TR mvR false (some .int) [.inr 0, .inl x1] M (0, v0, M9) := ct_of hl (by decide) iR_peek.1 (Nat.le_of_ble_eq_true rfl) (fun X => wR_peek X hf)
end WK
