abbrev Cl (p : Program) (l : Launch) (e : Env) (s : State) (m : MethodId) (b : Nat) (below : List Frame) (meth : Method) (c : Code) (D : va_G) (aK : Nat → ClassId) (a0 : Nat → Nat) (nc ns : Nat) : Prop :=
  Cx p l e room_1 s m #[Value.ref b] below meth c D aK TU mvU true a0 "PackedImageLaw" code 7 ret false (fun q => s.heap.size ≤ q) (lw_Z below #[Value.ref b] s) nc ns
section LM
variable {p : Program} {l : Launch} {e : Env} {s : State} {m : MethodId} {b : Nat} {below : List Frame} {meth : Method} {c : Code} {D : va_G} {aK : Nat → ClassId} {a0 : Nat → Nat}
theorem z_end {nc ns : Nat} {X : Cl p l e s m b below meth c D aK a0 nc ns} {L : List (Option Vv)} {M : Mm} (h1 : nc ≤ 601024) (h2 : ns ≤ 7293034) : Wm X 943 L [.inl 1] M := by
  intro ad H ls locs h3 h4 h5 h6
  exact va_forget (fun q hq => h5.2.2 q hq) (W.widen h1 h2 (lw_ret X.hx X.hb X.hr X.hlocks dM_943))
theorem room_f : room_1.frames = 12 := rfl
theorem room_l : room_1.locals = 428 := rfl
theorem room_c : room_1.cells = 601024 := rfl
theorem room_s : room_1.slots = 7293034 := rfl
/-- what every case knows -/
abbrev Lp7 (i : Int) (o5 o6 : Option Vv) : List (Option Vv) := [some (.inr 999), some (.inr 0), some (.inr 27), some (.inr 46), some (.inl i), o5, o6]
set_option maxHeartbeats 1000000 in
theorem z_create {Rl : Mm → Mm → Prop} {n nc ns : Nat} {xs : Nat → Int32} {i : Int} {M : Mm} (hops : Ops Rl) (X : Cl p l e s m b below meth c D aK a0 nc ns) (hnc : NcA s) (hX : va_X b n xs s s.heap) (hb : b < s.heap.size) (ha : a0 999 = b) (hn : n ≤ 2048) (hi : 0 ≤ i ∧ i + 4 ≤ n) (hk1 : nc ≤ 2000) (hk2 : ns ≤ 100000) (hR : RU Rl M) (k : ∀ (nc' ns' : Nat) (M' : Mm) (o5 o6 : Option Vv), nc' ≤ nc + 1 → ns' ≤ ns + 6 → RU Rl M' → Wm (X.at_ nc' ns') 936 (Lp7 i o5 o6) [] M') : Wm X 112 (Lp7 i none none) [] M := by
  obtain ⟨w, v, MR1, g1, g2, g3, g4, g5, g6⟩ := Orr.at_ (hops.2.1 ((xs (i + 1).toNat).toInt) ((xs (i + 2).toNat).toInt) ((xs (i + 3).toNat).toInt % 65536) (oI_rng _) (oI_rng _) ⟨by omega, by omega⟩) hops.1 hR
  refine x_aloadn dM_112 rfl ?_
  refine x_aloadn dM_113 rfl ?_
  refine x_iload dM_114 rfl ?_
  refine x_iconst dM_116 ?_
  refine x_iadd dM_117 ?_
  refine y_sld hX hb (Nat.not_le.mpr hb) ha rfl (by omega) ⟨by omega, by omega⟩ dM_118 ?_
  refine x_aloadn dM_119 rfl ?_
  refine x_iload dM_120 rfl ?_
  refine x_iconst dM_122 ?_
  refine x_iadd dM_123 ?_
  refine y_sld hX hb (Nat.not_le.mpr hb) ha rfl (by omega) ⟨by omega, by omega⟩ dM_124 ?_
  refine x_aloadn dM_125 rfl ?_
  refine x_iload dM_126 rfl ?_
  refine x_iconst dM_128 ?_
  refine x_iadd dM_129 ?_
  refine y_sld hX hb (Nat.not_le.mpr hb) ha rfl (by omega) ⟨by omega, by omega⟩ dM_130 ?_
  refine y_i2c dM_131 ?_
  refine x_aloadn dM_132 rfl ?_
  refine y_cs X hnc (kL_create X.hst g1 (by simpa using g2) (fun z => (g3 z).1)) jL_create lM_68 rfl ⟨Nat.le_of_ble_eq_true rfl, Nat.le_of_ble_eq_true rfl, by show _ ≤ 601024; show nc + 1 ≤ _; omega, by show _ ≤ 7293034; show ns + 6 ≤ _; omega⟩ (Nat.le_of_ble_eq_true rfl) dM_133 (fun z => nomatch z) (Or.inl rfl) (Or.inl rfl) ?_
  refine x_istore dM_136 (by decide) ?_
  refine x_aloadn dM_138 rfl ?_
  refine x_aloadn dM_139 rfl ?_
  refine x_iload dM_140 rfl ?_
  refine x_iconst dM_142 ?_
  refine x_iadd dM_143 ?_
  refine y_sld hX hb (Nat.not_le.mpr hb) ha rfl (by omega) ⟨by omega, by omega⟩ dM_144 ?_
  refine x_aloadn dM_145 rfl ?_
  refine x_iload dM_146 rfl ?_
  refine x_iconst dM_148 ?_
  refine x_iadd dM_149 ?_
  refine y_sld hX hb (Nat.not_le.mpr hb) ha rfl (by omega) ⟨by omega, by omega⟩ dM_150 ?_
  refine x_aloadn dM_151 rfl ?_
  refine x_iload dM_152 rfl ?_
  refine x_iconst dM_154 ?_
  refine x_iadd dM_155 ?_
  refine y_sld hX hb (Nat.not_le.mpr hb) ha rfl (by omega) ⟨by omega, by omega⟩ dM_156 ?_
  refine y_i2c dM_157 ?_
  refine y_cv _ hnc (ctw_of (ct_emb ER (kR_create X.hst _ _ g4)) rfl) iR_create (Or.inl lM_73) tU_27 rfl rfl ⟨Nat.le_of_ble_eq_true rfl, Nat.le_of_ble_eq_true rfl, by show _ ≤ 601024; show nc + 1 + 1 ≤ _; omega, by show _ ≤ 7293034; show ns + 6 + 6 ≤ _; omega⟩ (Nat.le_of_ble_eq_true rfl) dM_158 (fun z => nomatch z) (Or.inl rfl) (Or.inl rfl) ?_
  refine x_istore dM_161 (by decide) ?_
  refine x_aloadn dM_163 rfl ?_
  refine y_cv _ hnc (ctw_of (ct_emb ER (kR_thrown X.hst _ _ rfl)) rfl) iR_thrown (Or.inl lM_74) tU_27 rfl rfl ⟨Nat.le_of_ble_eq_true rfl, Nat.le_of_ble_eq_true rfl, by show _ ≤ 601024; show nc + 1 + 0 + 1 ≤ _; omega, by show _ ≤ 7293034; show ns + 6 + 0 + 6 ≤ _; omega⟩ (Nat.le_of_ble_eq_true rfl) dM_164 (fun z => nomatch z) (Or.inl rfl) (Or.inl rfl) ?_
  rw [show ∀ z : Mm, mrg gR (fun k => z (27 + k)) z = z from fun z => mu_self]
  refine x_iload dM_167 rfl ?_
  refine y_eqj (tgt := 174) ((congrFun (mu_R (MR := MR1) (M := outm M w) (k := 0) (by decide)) 0).trans g5) (wrc_r (by decide) _) dM_169 rfl ?_
  refine x_iload dM_174 rfl ?_
  by_cases hz : w.1 = 0
  · refine y_nef (tgt := 191) (by rw [hz]; rfl) dM_176 rfl ?_
    refine x_aloadn dM_179 rfl ?_
    refine x_iconst dM_180 ?_
    refine y_same (tgt := 191) tU_46 (by decide) (w := v) (by rw [(g3 hz).2]; exact (g3 hz).1) (by show mrg gR MR1 (outm M w) 46 0 = v; rw [mu_46, om_46 hz, (g3 hz).2]) rfl dM_181 dM_182 dM_184 dM_185 dM_186 rfl ?_
    refine x_goto (tgt := 936) dM_191 rfl ?_
    exact k _ _ _ _ _ (by omega) (by omega) g6
  · refine y_nej (tgt := 191) (by have := wrc_p (cs := [1, 2]) hz; omega) (wrc_r (by decide) _) dM_176 rfl ?_
    refine x_goto (tgt := 936) dM_191 rfl ?_
    exact k _ _ _ _ _ (by omega) (by omega) g6
set_option maxHeartbeats 1000000 in
theorem z_link {Rl : Mm → Mm → Prop} {n nc ns : Nat} {xs : Nat → Int32} {i : Int} {M : Mm} (hops : Ops Rl) (X : Cl p l e s m b below meth c D aK a0 nc ns) (hnc : NcA s) (hX : va_X b n xs s s.heap) (hb : b < s.heap.size) (ha : a0 999 = b) (hn : n ≤ 2048) (hi : 0 ≤ i ∧ i + 4 ≤ n) (hk1 : nc ≤ 2000) (hk2 : ns ≤ 100000) (hR : RU Rl M) (k : ∀ (nc' ns' : Nat) (M' : Mm) (o5 o6 : Option Vv), nc' ≤ nc + 1 → ns' ≤ ns + 6 → RU Rl M' → Wm (X.at_ nc' ns') 936 (Lp7 i o5 o6) [] M') : Wm X 194 (Lp7 i none none) [] M := by
  obtain ⟨w, v, MR1, g1, g2, g4, g5, g6⟩ := Ovv.at_ (hops.2.2.1 ((xs (i + 1).toNat).toInt) ((xs (i + 2).toNat).toInt) ((xs (i + 3).toNat).toInt % 65536) (oI_rng _) (oI_rng _) ⟨by omega, by omega⟩) hops.1 hR
  refine x_aloadn dM_194 rfl ?_
  refine x_aloadn dM_195 rfl ?_
  refine x_iload dM_196 rfl ?_
  refine x_iconst dM_198 ?_
  refine x_iadd dM_199 ?_
  refine y_sld hX hb (Nat.not_le.mpr hb) ha rfl (by omega) ⟨by omega, by omega⟩ dM_200 ?_
  refine x_aloadn dM_201 rfl ?_
  refine x_iload dM_202 rfl ?_
  refine x_iconst dM_204 ?_
  refine x_iadd dM_205 ?_
  refine y_sld hX hb (Nat.not_le.mpr hb) ha rfl (by omega) ⟨by omega, by omega⟩ dM_206 ?_
  refine x_aloadn dM_207 rfl ?_
  refine x_iload dM_208 rfl ?_
  refine x_iconst dM_210 ?_
  refine x_iadd dM_211 ?_
  refine y_sld hX hb (Nat.not_le.mpr hb) ha rfl (by omega) ⟨by omega, by omega⟩ dM_212 ?_
  refine y_i2c dM_213 ?_
  refine y_cs X hnc (kL_link X.hst g1 (by simpa using g2)) jL_link lM_77 rfl ⟨Nat.le_of_ble_eq_true rfl, Nat.le_of_ble_eq_true rfl, by show _ ≤ 601024; show nc + 1 ≤ _; omega, by show _ ≤ 7293034; show ns + 6 ≤ _; omega⟩ (Nat.le_of_ble_eq_true rfl) dM_214 (fun z => nomatch z) (Or.inl rfl) (Or.inl rfl) ?_
  refine x_istore dM_217 (by decide) ?_
  refine x_aloadn dM_219 rfl ?_
  refine x_aloadn dM_220 rfl ?_
  refine x_iload dM_221 rfl ?_
  refine x_iconst dM_223 ?_
  refine x_iadd dM_224 ?_
  refine y_sld hX hb (Nat.not_le.mpr hb) ha rfl (by omega) ⟨by omega, by omega⟩ dM_225 ?_
  refine x_aloadn dM_226 rfl ?_
  refine x_iload dM_227 rfl ?_
  refine x_iconst dM_229 ?_
  refine x_iadd dM_230 ?_
  refine y_sld hX hb (Nat.not_le.mpr hb) ha rfl (by omega) ⟨by omega, by omega⟩ dM_231 ?_
  refine x_aloadn dM_232 rfl ?_
  refine x_iload dM_233 rfl ?_
  refine x_iconst dM_235 ?_
  refine x_iadd dM_236 ?_
  refine y_sld hX hb (Nat.not_le.mpr hb) ha rfl (by omega) ⟨by omega, by omega⟩ dM_237 ?_
  refine y_i2c dM_238 ?_
  refine y_cv _ hnc (ctw_of (ct_emb ER (kR_link X.hst _ _ g4)) rfl) iR_link (Or.inl lM_80) tU_27 rfl rfl ⟨Nat.le_of_ble_eq_true rfl, Nat.le_of_ble_eq_true rfl, by show _ ≤ 601024; show nc + 1 + 1 ≤ _; omega, by show _ ≤ 7293034; show ns + 6 + 6 ≤ _; omega⟩ (Nat.le_of_ble_eq_true rfl) dM_239 (fun z => nomatch z) (Or.inl rfl) (Or.inl rfl) ?_
  refine x_aloadn dM_242 rfl ?_
  refine y_cv _ hnc (ctw_of (ct_emb ER (kR_thrown X.hst _ _ rfl)) rfl) iR_thrown (Or.inl lM_74) tU_27 rfl rfl ⟨Nat.le_of_ble_eq_true rfl, Nat.le_of_ble_eq_true rfl, by show _ ≤ 601024; show nc + 1 + 0 + 1 ≤ _; omega, by show _ ≤ 7293034; show ns + 6 + 0 + 6 ≤ _; omega⟩ (Nat.le_of_ble_eq_true rfl) dM_243 (fun z => nomatch z) (Or.inl rfl) (Or.inl rfl) ?_
  rw [show ∀ z : Mm, mrg gR (fun k => z (27 + k)) z = z from fun z => mu_self]
  refine x_iload dM_246 rfl ?_
  refine y_eqj (tgt := 253) ((congrFun (mu_R (MR := MR1) (M := mrg gX w.2.2 M) (k := 0) (by decide)) 0).trans g5) (wrc_r (by decide) _) dM_248 rfl ?_
  refine x_goto (tgt := 936) dM_253 rfl ?_
  exact k _ _ _ _ _ (by omega) (by omega) g6
set_option maxHeartbeats 1000000 in
theorem z_unlink {Rl : Mm → Mm → Prop} {n nc ns : Nat} {xs : Nat → Int32} {i : Int} {M : Mm} (hops : Ops Rl) (X : Cl p l e s m b below meth c D aK a0 nc ns) (hnc : NcA s) (hX : va_X b n xs s s.heap) (hb : b < s.heap.size) (ha : a0 999 = b) (hn : n ≤ 2048) (hi : 0 ≤ i ∧ i + 4 ≤ n) (hk1 : nc ≤ 2000) (hk2 : ns ≤ 100000) (hR : RU Rl M) (k : ∀ (nc' ns' : Nat) (M' : Mm) (o5 o6 : Option Vv), nc' ≤ nc + 1 → ns' ≤ ns + 6 → RU Rl M' → Wm (X.at_ nc' ns') 936 (Lp7 i o5 o6) [] M') : Wm X 256 (Lp7 i none none) [] M := by
  obtain ⟨w, v, MR1, g1, g2, g4, g5, g6⟩ := Ovv.at_ (hops.2.2.2.1 ((xs (i + 1).toNat).toInt) ((xs (i + 2).toNat).toInt % 65536) (oI_rng _) ⟨by omega, by omega⟩) hops.1 hR
  refine x_aloadn dM_256 rfl ?_
  refine x_aloadn dM_257 rfl ?_
  refine x_iload dM_258 rfl ?_
  refine x_iconst dM_260 ?_
  refine x_iadd dM_261 ?_
  refine y_sld hX hb (Nat.not_le.mpr hb) ha rfl (by omega) ⟨by omega, by omega⟩ dM_262 ?_
  refine x_aloadn dM_263 rfl ?_
  refine x_iload dM_264 rfl ?_
  refine x_iconst dM_266 ?_
  refine x_iadd dM_267 ?_
  refine y_sld hX hb (Nat.not_le.mpr hb) ha rfl (by omega) ⟨by omega, by omega⟩ dM_268 ?_
  refine y_i2c dM_269 ?_
  refine y_cs X hnc (kL_unlink X.hst g1 (by simpa using g2)) jL_unlink lM_81 rfl ⟨Nat.le_of_ble_eq_true rfl, Nat.le_of_ble_eq_true rfl, by show _ ≤ 601024; show nc + 1 ≤ _; omega, by show _ ≤ 7293034; show ns + 6 ≤ _; omega⟩ (Nat.le_of_ble_eq_true rfl) dM_270 (fun z => nomatch z) (Or.inl rfl) (Or.inl rfl) ?_
  refine x_istore dM_273 (by decide) ?_
  refine x_aloadn dM_275 rfl ?_
  refine x_aloadn dM_276 rfl ?_
  refine x_iload dM_277 rfl ?_
  refine x_iconst dM_279 ?_
  refine x_iadd dM_280 ?_
  refine y_sld hX hb (Nat.not_le.mpr hb) ha rfl (by omega) ⟨by omega, by omega⟩ dM_281 ?_
  refine x_aloadn dM_282 rfl ?_
  refine x_iload dM_283 rfl ?_
  refine x_iconst dM_285 ?_
  refine x_iadd dM_286 ?_
  refine y_sld hX hb (Nat.not_le.mpr hb) ha rfl (by omega) ⟨by omega, by omega⟩ dM_287 ?_
  refine y_i2c dM_288 ?_
  refine y_cv _ hnc (ctw_of (ct_emb ER (kR_unlink X.hst _ _ g4)) rfl) iR_unlink (Or.inl lM_84) tU_27 rfl rfl ⟨Nat.le_of_ble_eq_true rfl, Nat.le_of_ble_eq_true rfl, by show _ ≤ 601024; show nc + 1 + 1 ≤ _; omega, by show _ ≤ 7293034; show ns + 6 + 6 ≤ _; omega⟩ (Nat.le_of_ble_eq_true rfl) dM_289 (fun z => nomatch z) (Or.inl rfl) (Or.inl rfl) ?_
  refine x_aloadn dM_292 rfl ?_
  refine y_cv _ hnc (ctw_of (ct_emb ER (kR_thrown X.hst _ _ rfl)) rfl) iR_thrown (Or.inl lM_74) tU_27 rfl rfl ⟨Nat.le_of_ble_eq_true rfl, Nat.le_of_ble_eq_true rfl, by show _ ≤ 601024; show nc + 1 + 0 + 1 ≤ _; omega, by show _ ≤ 7293034; show ns + 6 + 0 + 6 ≤ _; omega⟩ (Nat.le_of_ble_eq_true rfl) dM_293 (fun z => nomatch z) (Or.inl rfl) (Or.inl rfl) ?_
  rw [show ∀ z : Mm, mrg gR (fun k => z (27 + k)) z = z from fun z => mu_self]
  refine x_iload dM_296 rfl ?_
  refine y_eqj (tgt := 303) ((congrFun (mu_R (MR := MR1) (M := mrg gX w.2.2 M) (k := 0) (by decide)) 0).trans g5) (wrc_r (by decide) _) dM_298 rfl ?_
  refine x_goto (tgt := 936) dM_303 rfl ?_
  exact k _ _ _ _ _ (by omega) (by omega) g6
set_option maxHeartbeats 1000000 in
theorem z_append {Rl : Mm → Mm → Prop} {n nc ns : Nat} {xs : Nat → Int32} {i : Int} {M : Mm} (hops : Ops Rl) (X : Cl p l e s m b below meth c D aK a0 nc ns) (hnc : NcA s) (hX : va_X b n xs s s.heap) (hb : b < s.heap.size) (ha : a0 999 = b) (hn : n ≤ 2048) (hi : 0 ≤ i ∧ i + 4 ≤ n) (hk1 : nc ≤ 2000) (hk2 : ns ≤ 100000) (hR : RU Rl M) (k : ∀ (nc' ns' : Nat) (M' : Mm) (o5 o6 : Option Vv), nc' ≤ nc + 1 → ns' ≤ ns + 6 → RU Rl M' → Wm (X.at_ nc' ns') 936 (Lp7 i o5 o6) [] M') : Wm X 306 (Lp7 i none none) [] M := by
  obtain ⟨w, v, MR1, g1, g2, g3, g4, g5, g6⟩ := Orr.at_ (hops.2.2.2.2.1 ((xs (i + 1).toNat).toInt) ((xs (i + 2).toNat).toInt) (oI_rng _) (oI_rng _)) hops.1 hR
  refine x_aloadn dM_306 rfl ?_
  refine x_aloadn dM_307 rfl ?_
  refine x_iload dM_308 rfl ?_
  refine x_iconst dM_310 ?_
  refine x_iadd dM_311 ?_
  refine y_sld hX hb (Nat.not_le.mpr hb) ha rfl (by omega) ⟨by omega, by omega⟩ dM_312 ?_
  refine x_aloadn dM_313 rfl ?_
  refine x_iload dM_314 rfl ?_
  refine x_iconst dM_316 ?_
  refine x_iadd dM_317 ?_
  refine y_sld hX hb (Nat.not_le.mpr hb) ha rfl (by omega) ⟨by omega, by omega⟩ dM_318 ?_
  refine x_aloadn dM_319 rfl ?_
  refine y_cs X hnc (kL_append X.hst g1 (by simpa using g2) (fun z => (g3 z).1)) jL_append lM_85 rfl ⟨Nat.le_of_ble_eq_true rfl, Nat.le_of_ble_eq_true rfl, by show _ ≤ 601024; show nc + 1 ≤ _; omega, by show _ ≤ 7293034; show ns + 6 ≤ _; omega⟩ (Nat.le_of_ble_eq_true rfl) dM_320 (fun z => nomatch z) (Or.inl rfl) (Or.inl rfl) ?_
  refine x_istore dM_323 (by decide) ?_
  refine x_aloadn dM_325 rfl ?_
  refine x_aloadn dM_326 rfl ?_
  refine x_iload dM_327 rfl ?_
  refine x_iconst dM_329 ?_
  refine x_iadd dM_330 ?_
  refine y_sld hX hb (Nat.not_le.mpr hb) ha rfl (by omega) ⟨by omega, by omega⟩ dM_331 ?_
  refine x_aloadn dM_332 rfl ?_
  refine x_iload dM_333 rfl ?_
  refine x_iconst dM_335 ?_
  refine x_iadd dM_336 ?_
  refine y_sld hX hb (Nat.not_le.mpr hb) ha rfl (by omega) ⟨by omega, by omega⟩ dM_337 ?_
  refine y_cv _ hnc (ctw_of (ct_emb ER (kR_append X.hst _ _ g4)) rfl) iR_append (Or.inl lM_88) tU_27 rfl rfl ⟨Nat.le_of_ble_eq_true rfl, Nat.le_of_ble_eq_true rfl, by show _ ≤ 601024; show nc + 1 + 1 ≤ _; omega, by show _ ≤ 7293034; show ns + 6 + 6 ≤ _; omega⟩ (Nat.le_of_ble_eq_true rfl) dM_338 (fun z => nomatch z) (Or.inl rfl) (Or.inl rfl) ?_
  refine x_istore dM_341 (by decide) ?_
  refine x_aloadn dM_343 rfl ?_
  refine y_cv _ hnc (ctw_of (ct_emb ER (kR_thrown X.hst _ _ rfl)) rfl) iR_thrown (Or.inl lM_74) tU_27 rfl rfl ⟨Nat.le_of_ble_eq_true rfl, Nat.le_of_ble_eq_true rfl, by show _ ≤ 601024; show nc + 1 + 0 + 1 ≤ _; omega, by show _ ≤ 7293034; show ns + 6 + 0 + 6 ≤ _; omega⟩ (Nat.le_of_ble_eq_true rfl) dM_344 (fun z => nomatch z) (Or.inl rfl) (Or.inl rfl) ?_
  rw [show ∀ z : Mm, mrg gR (fun k => z (27 + k)) z = z from fun z => mu_self]
  refine x_iload dM_347 rfl ?_
  refine y_eqj (tgt := 354) ((congrFun (mu_R (MR := MR1) (M := outm M w) (k := 0) (by decide)) 0).trans g5) (wrc_r (by decide) _) dM_349 rfl ?_
  refine x_iload dM_354 rfl ?_
  by_cases hz : w.1 = 0
  · refine y_nef (tgt := 371) (by rw [hz]; rfl) dM_356 rfl ?_
    refine x_aloadn dM_359 rfl ?_
    refine x_iconst dM_360 ?_
    refine y_same (tgt := 371) tU_46 (by decide) (w := v) (by rw [(g3 hz).2]; exact (g3 hz).1) (by show mrg gR MR1 (outm M w) 46 0 = v; rw [mu_46, om_46 hz, (g3 hz).2]) rfl dM_361 dM_362 dM_364 dM_365 dM_366 rfl ?_
    refine x_goto (tgt := 936) dM_371 rfl ?_
    exact k _ _ _ _ _ (by omega) (by omega) g6
  · refine y_nej (tgt := 371) (by have := wrc_p (cs := [1, 2]) hz; omega) (wrc_r (by decide) _) dM_356 rfl ?_
    refine x_goto (tgt := 936) dM_371 rfl ?_
    exact k _ _ _ _ _ (by omega) (by omega) g6
set_option maxHeartbeats 1000000 in
theorem z_build {Rl : Mm → Mm → Prop} {n nc ns : Nat} {xs : Nat → Int32} {i : Int} {M : Mm} (hops : Ops Rl) (X : Cl p l e s m b below meth c D aK a0 nc ns) (hnc : NcA s) (hX : va_X b n xs s s.heap) (hb : b < s.heap.size) (ha : a0 999 = b) (hn : n ≤ 2048) (hi : 0 ≤ i ∧ i + 4 ≤ n) (hk1 : nc ≤ 2000) (hk2 : ns ≤ 100000) (hR : RU Rl M) (k : ∀ (nc' ns' : Nat) (M' : Mm) (o5 o6 : Option Vv), nc' ≤ nc + 1 → ns' ≤ ns + 6 → RU Rl M' → Wm (X.at_ nc' ns') 936 (Lp7 i o5 o6) [] M') : Wm X 374 (Lp7 i none none) [] M := by
  obtain ⟨w, v, MR1, g1, g2, g3, g4, g5, g6⟩ := Orr.at_ (hops.2.2.2.2.2.1 ((xs (i + 1).toNat).toInt) (oI_rng _)) hops.1 hR
  refine x_aloadn dM_374 rfl ?_
  refine x_aloadn dM_375 rfl ?_
  refine x_iload dM_376 rfl ?_
  refine x_iconst dM_378 ?_
  refine x_iadd dM_379 ?_
  refine y_sld hX hb (Nat.not_le.mpr hb) ha rfl (by omega) ⟨by omega, by omega⟩ dM_380 ?_
  refine x_aloadn dM_381 rfl ?_
  refine y_cs X hnc (kL_build X.hst g1 (by simpa using g2) (fun z => (g3 z).1)) jL_build lM_89 rfl ⟨Nat.le_of_ble_eq_true rfl, Nat.le_of_ble_eq_true rfl, by show _ ≤ 601024; show nc + 1 ≤ _; omega, by show _ ≤ 7293034; show ns + 6 ≤ _; omega⟩ (Nat.le_of_ble_eq_true rfl) dM_382 (fun z => nomatch z) (Or.inl rfl) (Or.inl rfl) ?_
  refine x_istore dM_385 (by decide) ?_
  refine x_aloadn dM_387 rfl ?_
  refine x_aloadn dM_388 rfl ?_
  refine x_iload dM_389 rfl ?_
  refine x_iconst dM_391 ?_
  refine x_iadd dM_392 ?_
  refine y_sld hX hb (Nat.not_le.mpr hb) ha rfl (by omega) ⟨by omega, by omega⟩ dM_393 ?_
  refine y_cv _ hnc (ctw_of (ct_emb ER (kR_build X.hst _ _ g4)) rfl) iR_build (Or.inl lM_92) tU_27 rfl rfl ⟨Nat.le_of_ble_eq_true rfl, Nat.le_of_ble_eq_true rfl, by show _ ≤ 601024; show nc + 1 + 1 ≤ _; omega, by show _ ≤ 7293034; show ns + 6 + 6 ≤ _; omega⟩ (Nat.le_of_ble_eq_true rfl) dM_394 (fun z => nomatch z) (Or.inl rfl) (Or.inl rfl) ?_
  refine x_istore dM_397 (by decide) ?_
  refine x_aloadn dM_399 rfl ?_
  refine y_cv _ hnc (ctw_of (ct_emb ER (kR_thrown X.hst _ _ rfl)) rfl) iR_thrown (Or.inl lM_74) tU_27 rfl rfl ⟨Nat.le_of_ble_eq_true rfl, Nat.le_of_ble_eq_true rfl, by show _ ≤ 601024; show nc + 1 + 0 + 1 ≤ _; omega, by show _ ≤ 7293034; show ns + 6 + 0 + 6 ≤ _; omega⟩ (Nat.le_of_ble_eq_true rfl) dM_400 (fun z => nomatch z) (Or.inl rfl) (Or.inl rfl) ?_
  rw [show ∀ z : Mm, mrg gR (fun k => z (27 + k)) z = z from fun z => mu_self]
  refine x_iload dM_403 rfl ?_
  refine y_eqj (tgt := 410) ((congrFun (mu_R (MR := MR1) (M := outm M w) (k := 0) (by decide)) 0).trans g5) (wrc_r (by decide) _) dM_405 rfl ?_
  refine x_iload dM_410 rfl ?_
  by_cases hz : w.1 = 0
  · refine y_nef (tgt := 427) (by rw [hz]; rfl) dM_412 rfl ?_
    refine x_aloadn dM_415 rfl ?_
    refine x_iconst dM_416 ?_
    refine y_same (tgt := 427) tU_46 (by decide) (w := v) (by rw [(g3 hz).2]; exact (g3 hz).1) (by show mrg gR MR1 (outm M w) 46 0 = v; rw [mu_46, om_46 hz, (g3 hz).2]) rfl dM_417 dM_418 dM_420 dM_421 dM_422 rfl ?_
    refine x_goto (tgt := 936) dM_427 rfl ?_
    exact k _ _ _ _ _ (by omega) (by omega) g6
  · refine y_nej (tgt := 427) (by have := wrc_p (cs := [1, 4]) hz; omega) (wrc_r (by decide) _) dM_412 rfl ?_
    refine x_goto (tgt := 936) dM_427 rfl ?_
    exact k _ _ _ _ _ (by omega) (by omega) g6
set_option maxHeartbeats 1000000 in
theorem z_peek {Rl : Mm → Mm → Prop} {n nc ns : Nat} {xs : Nat → Int32} {i : Int} {M : Mm} (hops : Ops Rl) (X : Cl p l e s m b below meth c D aK a0 nc ns) (hnc : NcA s) (hX : va_X b n xs s s.heap) (hb : b < s.heap.size) (ha : a0 999 = b) (hn : n ≤ 2048) (hi : 0 ≤ i ∧ i + 4 ≤ n) (hk1 : nc ≤ 2000) (hk2 : ns ≤ 100000) (hR : RU Rl M) (k : ∀ (nc' ns' : Nat) (M' : Mm) (o5 o6 : Option Vv), nc' ≤ nc + 1 → ns' ≤ ns + 6 → RU Rl M' → Wm (X.at_ nc' ns') 936 (Lp7 i o5 o6) [] M') : Wm X 430 (Lp7 i none none) [] M := by
  obtain ⟨w, v, MR1, g1, g2, g3, g4, g5, g6⟩ := Orr.at_ (hops.2.2.2.2.2.2.1 ((xs (i + 1).toNat).toInt) (oI_rng _)) hops.1 hR
  refine x_aloadn dM_430 rfl ?_
  refine x_aloadn dM_431 rfl ?_
  refine x_iload dM_432 rfl ?_
  refine x_iconst dM_434 ?_
  refine x_iadd dM_435 ?_
  refine y_sld hX hb (Nat.not_le.mpr hb) ha rfl (by omega) ⟨by omega, by omega⟩ dM_436 ?_
  refine x_aloadn dM_437 rfl ?_
  refine y_cs X hnc (kL_peek X.hst g1 (by simpa using g2) (fun z => (g3 z).1)) jL_peek lM_93 rfl ⟨Nat.le_of_ble_eq_true rfl, Nat.le_of_ble_eq_true rfl, by show _ ≤ 601024; show nc + 1 ≤ _; omega, by show _ ≤ 7293034; show ns + 6 ≤ _; omega⟩ (Nat.le_of_ble_eq_true rfl) dM_438 (fun z => nomatch z) (Or.inl rfl) (Or.inl rfl) ?_
  refine x_istore dM_441 (by decide) ?_
  refine x_aloadn dM_443 rfl ?_
  refine x_aloadn dM_444 rfl ?_
  refine x_iload dM_445 rfl ?_
  refine x_iconst dM_447 ?_
  refine x_iadd dM_448 ?_
  refine y_sld hX hb (Nat.not_le.mpr hb) ha rfl (by omega) ⟨by omega, by omega⟩ dM_449 ?_
  refine y_cv _ hnc (ctw_of (ct_emb ER (kR_peek X.hst _ _ g4)) rfl) iR_peek (Or.inl lM_95) tU_27 rfl rfl ⟨Nat.le_of_ble_eq_true rfl, Nat.le_of_ble_eq_true rfl, by show _ ≤ 601024; show nc + 1 + 1 ≤ _; omega, by show _ ≤ 7293034; show ns + 6 + 6 ≤ _; omega⟩ (Nat.le_of_ble_eq_true rfl) dM_450 (fun z => nomatch z) (Or.inl rfl) (Or.inl rfl) ?_
  refine x_istore dM_453 (by decide) ?_
  refine x_aloadn dM_455 rfl ?_
  refine y_cv _ hnc (ctw_of (ct_emb ER (kR_thrown X.hst _ _ rfl)) rfl) iR_thrown (Or.inl lM_74) tU_27 rfl rfl ⟨Nat.le_of_ble_eq_true rfl, Nat.le_of_ble_eq_true rfl, by show _ ≤ 601024; show nc + 1 + 0 + 1 ≤ _; omega, by show _ ≤ 7293034; show ns + 6 + 0 + 6 ≤ _; omega⟩ (Nat.le_of_ble_eq_true rfl) dM_456 (fun z => nomatch z) (Or.inl rfl) (Or.inl rfl) ?_
  rw [show ∀ z : Mm, mrg gR (fun k => z (27 + k)) z = z from fun z => mu_self]
  refine x_iload dM_459 rfl ?_
  refine y_eqj (tgt := 466) ((congrFun (mu_R (MR := MR1) (M := outm M w) (k := 0) (by decide)) 0).trans g5) (wrc_r (by decide) _) dM_461 rfl ?_
  refine x_iload dM_466 rfl ?_
  by_cases hz : w.1 = 0
  · refine y_nef (tgt := 483) (by rw [hz]; rfl) dM_468 rfl ?_
    refine x_aloadn dM_471 rfl ?_
    refine x_iconst dM_472 ?_
    refine y_same (tgt := 483) tU_46 (by decide) (w := v) (by rw [(g3 hz).2]; exact (g3 hz).1) (by show mrg gR MR1 (outm M w) 46 0 = v; rw [mu_46, om_46 hz, (g3 hz).2]) rfl dM_473 dM_474 dM_476 dM_477 dM_478 rfl ?_
    refine x_goto (tgt := 936) dM_483 rfl ?_
    exact k _ _ _ _ _ (by omega) (by omega) g6
  · refine y_nej (tgt := 483) (by have := wrc_p (cs := [3]) hz; omega) (wrc_r (by decide) _) dM_468 rfl ?_
    refine x_goto (tgt := 936) dM_483 rfl ?_
    exact k _ _ _ _ _ (by omega) (by omega) g6
set_option maxHeartbeats 1000000 in
theorem z_poke {Rl : Mm → Mm → Prop} {n nc ns : Nat} {xs : Nat → Int32} {i : Int} {M : Mm} (hops : Ops Rl) (X : Cl p l e s m b below meth c D aK a0 nc ns) (hnc : NcA s) (hX : va_X b n xs s s.heap) (hb : b < s.heap.size) (ha : a0 999 = b) (hn : n ≤ 2048) (hi : 0 ≤ i ∧ i + 4 ≤ n) (hk1 : nc ≤ 2000) (hk2 : ns ≤ 100000) (hR : RU Rl M) (k : ∀ (nc' ns' : Nat) (M' : Mm) (o5 o6 : Option Vv), nc' ≤ nc + 1 → ns' ≤ ns + 6 → RU Rl M' → Wm (X.at_ nc' ns') 936 (Lp7 i o5 o6) [] M') : Wm X 486 (Lp7 i none none) [] M := by
  obtain ⟨w, v, MR1, g1, g2, g4, g5, g6⟩ := Ovv.at_ (hops.2.2.2.2.2.2.2.1 ((xs (i + 1).toNat).toInt) ((xs (i + 2).toNat).toInt) (oI_rng _) (oI_rng _)) hops.1 hR
  refine x_aloadn dM_486 rfl ?_
  refine x_aloadn dM_487 rfl ?_
  refine x_iload dM_488 rfl ?_
  refine x_iconst dM_490 ?_
  refine x_iadd dM_491 ?_
  refine y_sld hX hb (Nat.not_le.mpr hb) ha rfl (by omega) ⟨by omega, by omega⟩ dM_492 ?_
  refine x_aloadn dM_493 rfl ?_
  refine x_iload dM_494 rfl ?_
  refine x_iconst dM_496 ?_
  refine x_iadd dM_497 ?_
  refine y_sld hX hb (Nat.not_le.mpr hb) ha rfl (by omega) ⟨by omega, by omega⟩ dM_498 ?_
  refine y_cs X hnc (kL_poke X.hst g1 (by simpa using g2)) jL_poke lM_96 rfl ⟨Nat.le_of_ble_eq_true rfl, Nat.le_of_ble_eq_true rfl, by show _ ≤ 601024; show nc + 1 ≤ _; omega, by show _ ≤ 7293034; show ns + 6 ≤ _; omega⟩ (Nat.le_of_ble_eq_true rfl) dM_499 (fun z => nomatch z) (Or.inl rfl) (Or.inl rfl) ?_
  refine x_istore dM_502 (by decide) ?_
  refine x_aloadn dM_504 rfl ?_
  refine x_aloadn dM_505 rfl ?_
  refine x_iload dM_506 rfl ?_
  refine x_iconst dM_508 ?_
  refine x_iadd dM_509 ?_
  refine y_sld hX hb (Nat.not_le.mpr hb) ha rfl (by omega) ⟨by omega, by omega⟩ dM_510 ?_
  refine x_aloadn dM_511 rfl ?_
  refine x_iload dM_512 rfl ?_
  refine x_iconst dM_514 ?_
  refine x_iadd dM_515 ?_
  refine y_sld hX hb (Nat.not_le.mpr hb) ha rfl (by omega) ⟨by omega, by omega⟩ dM_516 ?_
  refine y_cv _ hnc (ctw_of (ct_emb ER (kR_poke X.hst _ _ g4)) rfl) iR_poke (Or.inl lM_99) tU_27 rfl rfl ⟨Nat.le_of_ble_eq_true rfl, Nat.le_of_ble_eq_true rfl, by show _ ≤ 601024; show nc + 1 + 1 ≤ _; omega, by show _ ≤ 7293034; show ns + 6 + 6 ≤ _; omega⟩ (Nat.le_of_ble_eq_true rfl) dM_517 (fun z => nomatch z) (Or.inl rfl) (Or.inl rfl) ?_
  refine x_aloadn dM_520 rfl ?_
  refine y_cv _ hnc (ctw_of (ct_emb ER (kR_thrown X.hst _ _ rfl)) rfl) iR_thrown (Or.inl lM_74) tU_27 rfl rfl ⟨Nat.le_of_ble_eq_true rfl, Nat.le_of_ble_eq_true rfl, by show _ ≤ 601024; show nc + 1 + 0 + 1 ≤ _; omega, by show _ ≤ 7293034; show ns + 6 + 0 + 6 ≤ _; omega⟩ (Nat.le_of_ble_eq_true rfl) dM_521 (fun z => nomatch z) (Or.inl rfl) (Or.inl rfl) ?_
  rw [show ∀ z : Mm, mrg gR (fun k => z (27 + k)) z = z from fun z => mu_self]
  refine x_iload dM_524 rfl ?_
  refine y_eqj (tgt := 531) ((congrFun (mu_R (MR := MR1) (M := mrg gX w.2.2 M) (k := 0) (by decide)) 0).trans g5) (wrc_r (by decide) _) dM_526 rfl ?_
  refine x_goto (tgt := 936) dM_531 rfl ?_
  exact k _ _ _ _ _ (by omega) (by omega) g6
set_option maxHeartbeats 1000000 in
theorem z_seal {Rl : Mm → Mm → Prop} {n nc ns : Nat} {xs : Nat → Int32} {i : Int} {M : Mm} (hops : Ops Rl) (X : Cl p l e s m b below meth c D aK a0 nc ns) (hnc : NcA s) (hX : va_X b n xs s s.heap) (hb : b < s.heap.size) (ha : a0 999 = b) (hn : n ≤ 2048) (hi : 0 ≤ i ∧ i + 4 ≤ n) (hk1 : nc ≤ 2000) (hk2 : ns ≤ 100000) (hR : RU Rl M) (k : ∀ (nc' ns' : Nat) (M' : Mm) (o5 o6 : Option Vv), nc' ≤ nc + 1 → ns' ≤ ns + 6 → RU Rl M' → Wm (X.at_ nc' ns') 936 (Lp7 i o5 o6) [] M') : Wm X 534 (Lp7 i none none) [] M := by
  obtain ⟨v, v', MX1, MR1, g1, g4, g6⟩ := Oss.at_ hops.2.2.2.2.2.2.2.2.1 hops.1 hR
  refine x_aloadn dM_534 rfl ?_
  refine y_cv X hnc (ctw_of (ct_emb EX (kX_seal X.hst _ _ g1)) rfl) iX_seal (Or.inl lM_100) tU_0 rfl rfl ⟨Nat.le_of_ble_eq_true rfl, Nat.le_of_ble_eq_true rfl, by show _ ≤ 601024; show nc + 1 ≤ _; omega, by show _ ≤ 7293034; show ns + 6 ≤ _; omega⟩ (Nat.le_of_ble_eq_true rfl) dM_535 (fun z => nomatch z) (Or.inl rfl) (Or.inl rfl) ?_
  refine x_aloadn dM_538 rfl ?_
  refine y_cv _ hnc (ctw_of (ct_emb ER (kR_seal X.hst _ _ g4)) rfl) iR_seal (Or.inl lM_103) tU_27 rfl rfl ⟨Nat.le_of_ble_eq_true rfl, Nat.le_of_ble_eq_true rfl, by show _ ≤ 601024; show nc + 0 + 1 ≤ _; omega, by show _ ≤ 7293034; show ns + 0 + 6 ≤ _; omega⟩ (Nat.le_of_ble_eq_true rfl) dM_539 (fun z => nomatch z) (Or.inl rfl) (Or.inl rfl) ?_
  refine x_goto (tgt := 936) dM_542 rfl ?_
  exact k _ _ _ _ _ (by omega) (by omega) g6
set_option maxHeartbeats 1000000 in
theorem z_mount {Rl : Mm → Mm → Prop} {n nc ns : Nat} {xs : Nat → Int32} {i : Int} {M : Mm} (hops : Ops Rl) (X : Cl p l e s m b below meth c D aK a0 nc ns) (hnc : NcA s) (hX : va_X b n xs s s.heap) (hb : b < s.heap.size) (ha : a0 999 = b) (hn : n ≤ 2048) (hi : 0 ≤ i ∧ i + 4 ≤ n) (hk1 : nc ≤ 2000) (hk2 : ns ≤ 100000) (hR : RU Rl M) (k : ∀ (nc' ns' : Nat) (M' : Mm) (o5 o6 : Option Vv), nc' ≤ nc + 1 → ns' ≤ ns + 6 → RU Rl M' → Wm (X.at_ nc' ns') 936 (Lp7 i o5 o6) [] M') : Wm X 545 (Lp7 i none none) [] M := by
  obtain ⟨w, v, MR1, g1, g2, g3, g4, g5, g6⟩ := Orr.at_ hops.2.2.2.2.2.2.2.2.2.1 hops.1 hR
  refine x_aloadn dM_545 rfl ?_
  refine x_aloadn dM_546 rfl ?_
  refine y_cs X hnc (kL_mount X.hst g1 (by simpa using g2) (fun z => (g3 z).1)) jL_mount lM_104 rfl ⟨Nat.le_of_ble_eq_true rfl, Nat.le_of_ble_eq_true rfl, by show _ ≤ 601024; show nc + 1 ≤ _; omega, by show _ ≤ 7293034; show ns + 6 ≤ _; omega⟩ (Nat.le_of_ble_eq_true rfl) dM_547 (fun z => nomatch z) (Or.inl rfl) (Or.inl rfl) ?_
  refine x_istore dM_550 (by decide) ?_
  refine x_aloadn dM_552 rfl ?_
  refine y_cv _ hnc (ctw_of (ct_emb ER (kR_mount X.hst _ _ g4)) rfl) iR_mount (Or.inl lM_107) tU_27 rfl rfl ⟨Nat.le_of_ble_eq_true rfl, Nat.le_of_ble_eq_true rfl, by show _ ≤ 601024; show nc + 1 + 1 ≤ _; omega, by show _ ≤ 7293034; show ns + 6 + 6 ≤ _; omega⟩ (Nat.le_of_ble_eq_true rfl) dM_553 (fun z => nomatch z) (Or.inl rfl) (Or.inl rfl) ?_
  refine x_istore dM_556 (by decide) ?_
  refine x_aloadn dM_558 rfl ?_
  refine y_cv _ hnc (ctw_of (ct_emb ER (kR_thrown X.hst _ _ rfl)) rfl) iR_thrown (Or.inl lM_74) tU_27 rfl rfl ⟨Nat.le_of_ble_eq_true rfl, Nat.le_of_ble_eq_true rfl, by show _ ≤ 601024; show nc + 1 + 0 + 1 ≤ _; omega, by show _ ≤ 7293034; show ns + 6 + 0 + 6 ≤ _; omega⟩ (Nat.le_of_ble_eq_true rfl) dM_559 (fun z => nomatch z) (Or.inl rfl) (Or.inl rfl) ?_
  rw [show ∀ z : Mm, mrg gR (fun k => z (27 + k)) z = z from fun z => mu_self]
  refine x_iload dM_562 rfl ?_
  refine y_eqj (tgt := 569) ((congrFun (mu_R (MR := MR1) (M := outm M w) (k := 0) (by decide)) 0).trans g5) (wrc_r (by decide) _) dM_564 rfl ?_
  refine x_iload dM_569 rfl ?_
  by_cases hz : w.1 = 0
  · refine y_nef (tgt := 586) (by rw [hz]; rfl) dM_571 rfl ?_
    refine x_aloadn dM_574 rfl ?_
    refine x_iconst dM_575 ?_
    refine y_same (tgt := 586) tU_46 (by decide) (w := v) (by rw [(g3 hz).2]; exact (g3 hz).1) (by show mrg gR MR1 (outm M w) 46 0 = v; rw [mu_46, om_46 hz, (g3 hz).2]) rfl dM_576 dM_577 dM_579 dM_580 dM_581 rfl ?_
    refine x_goto (tgt := 936) dM_586 rfl ?_
    exact k _ _ _ _ _ (by omega) (by omega) g6
  · refine y_nej (tgt := 586) (by have := wrc_p (cs := [2]) hz; omega) (wrc_r (by decide) _) dM_571 rfl ?_
    refine x_goto (tgt := 936) dM_586 rfl ?_
    exact k _ _ _ _ _ (by omega) (by omega) g6
set_option maxHeartbeats 1000000 in
theorem z_stat {Rl : Mm → Mm → Prop} {n nc ns : Nat} {xs : Nat → Int32} {i : Int} {M : Mm} (hops : Ops Rl) (X : Cl p l e s m b below meth c D aK a0 nc ns) (hnc : NcA s) (hX : va_X b n xs s s.heap) (hb : b < s.heap.size) (ha : a0 999 = b) (hn : n ≤ 2048) (hi : 0 ≤ i ∧ i + 4 ≤ n) (hk1 : nc ≤ 2000) (hk2 : ns ≤ 100000) (hR : RU Rl M) (k : ∀ (nc' ns' : Nat) (M' : Mm) (o5 o6 : Option Vv), nc' ≤ nc + 1 → ns' ≤ ns + 6 → RU Rl M' → Wm (X.at_ nc' ns') 936 (Lp7 i o5 o6) [] M') : Wm X 589 (Lp7 i none none) [] M := by
  obtain ⟨w, v, MR1, g1, g2, g3, g4, g5, g6⟩ := Orr.at_ (hops.2.2.2.2.2.2.2.2.2.2.1 ((xs (i + 1).toNat).toInt) ((xs (i + 2).toNat).toInt) (oI_rng _) (oI_rng _)) hops.1 hR
  refine x_aloadn dM_589 rfl ?_
  refine x_aloadn dM_590 rfl ?_
  refine x_iload dM_591 rfl ?_
  refine x_iconst dM_593 ?_
  refine x_iadd dM_594 ?_
  refine y_sld hX hb (Nat.not_le.mpr hb) ha rfl (by omega) ⟨by omega, by omega⟩ dM_595 ?_
  refine x_aloadn dM_596 rfl ?_
  refine x_iload dM_597 rfl ?_
  refine x_iconst dM_599 ?_
  refine x_iadd dM_600 ?_
  refine y_sld hX hb (Nat.not_le.mpr hb) ha rfl (by omega) ⟨by omega, by omega⟩ dM_601 ?_
  refine x_aloadn dM_602 rfl ?_
  refine y_cs X hnc (kL_stat X.hst g1 (by simpa using g2) (fun z => (g3 z).1)) jL_stat lM_108 rfl ⟨Nat.le_of_ble_eq_true rfl, Nat.le_of_ble_eq_true rfl, by show _ ≤ 601024; show nc + 1 ≤ _; omega, by show _ ≤ 7293034; show ns + 6 ≤ _; omega⟩ (Nat.le_of_ble_eq_true rfl) dM_603 (fun z => nomatch z) (Or.inl rfl) (Or.inl rfl) ?_
  refine x_istore dM_606 (by decide) ?_
  refine x_aloadn dM_608 rfl ?_
  refine x_aloadn dM_609 rfl ?_
  refine x_iload dM_610 rfl ?_
  refine x_iconst dM_612 ?_
  refine x_iadd dM_613 ?_
  refine y_sld hX hb (Nat.not_le.mpr hb) ha rfl (by omega) ⟨by omega, by omega⟩ dM_614 ?_
  refine x_aloadn dM_615 rfl ?_
  refine x_iload dM_616 rfl ?_
  refine x_iconst dM_618 ?_
  refine x_iadd dM_619 ?_
  refine y_sld hX hb (Nat.not_le.mpr hb) ha rfl (by omega) ⟨by omega, by omega⟩ dM_620 ?_
  refine y_cv _ hnc (ctw_of (ct_emb ER (kR_stat X.hst _ _ g4)) rfl) iR_stat (Or.inl lM_110) tU_27 rfl rfl ⟨Nat.le_of_ble_eq_true rfl, Nat.le_of_ble_eq_true rfl, by show _ ≤ 601024; show nc + 1 + 1 ≤ _; omega, by show _ ≤ 7293034; show ns + 6 + 6 ≤ _; omega⟩ (Nat.le_of_ble_eq_true rfl) dM_621 (fun z => nomatch z) (Or.inl rfl) (Or.inl rfl) ?_
  refine x_istore dM_624 (by decide) ?_
  refine x_aloadn dM_626 rfl ?_
  refine y_cv _ hnc (ctw_of (ct_emb ER (kR_thrown X.hst _ _ rfl)) rfl) iR_thrown (Or.inl lM_74) tU_27 rfl rfl ⟨Nat.le_of_ble_eq_true rfl, Nat.le_of_ble_eq_true rfl, by show _ ≤ 601024; show nc + 1 + 0 + 1 ≤ _; omega, by show _ ≤ 7293034; show ns + 6 + 0 + 6 ≤ _; omega⟩ (Nat.le_of_ble_eq_true rfl) dM_627 (fun z => nomatch z) (Or.inl rfl) (Or.inl rfl) ?_
  rw [show ∀ z : Mm, mrg gR (fun k => z (27 + k)) z = z from fun z => mu_self]
  refine x_iload dM_630 rfl ?_
  refine y_eqj (tgt := 637) ((congrFun (mu_R (MR := MR1) (M := outm M w) (k := 0) (by decide)) 0).trans g5) (wrc_r (by decide) _) dM_632 rfl ?_
  refine x_iload dM_637 rfl ?_
  by_cases hz : w.1 = 0
  · refine y_nef (tgt := 654) (by rw [hz]; rfl) dM_639 rfl ?_
    refine x_aloadn dM_642 rfl ?_
    refine x_iconst dM_643 ?_
    refine y_same (tgt := 654) tU_46 (by decide) (w := v) (by rw [(g3 hz).2]; exact (g3 hz).1) (by show mrg gR MR1 (outm M w) 46 0 = v; rw [mu_46, om_46 hz, (g3 hz).2]) rfl dM_644 dM_645 dM_647 dM_648 dM_649 rfl ?_
    refine x_goto (tgt := 936) dM_654 rfl ?_
    exact k _ _ _ _ _ (by omega) (by omega) g6
  · refine y_nej (tgt := 654) (by have := wrc_p (cs := [2, 3, 1]) hz; omega) (wrc_r (by decide) _) dM_639 rfl ?_
    refine x_goto (tgt := 936) dM_654 rfl ?_
    exact k _ _ _ _ _ (by omega) (by omega) g6
set_option maxHeartbeats 1000000 in
theorem z_read {Rl : Mm → Mm → Prop} {n nc ns : Nat} {xs : Nat → Int32} {i : Int} {M : Mm} (hops : Ops Rl) (X : Cl p l e s m b below meth c D aK a0 nc ns) (hnc : NcA s) (hX : va_X b n xs s s.heap) (hb : b < s.heap.size) (ha : a0 999 = b) (hn : n ≤ 2048) (hi : 0 ≤ i ∧ i + 4 ≤ n) (hk1 : nc ≤ 2000) (hk2 : ns ≤ 100000) (hR : RU Rl M) (k : ∀ (nc' ns' : Nat) (M' : Mm) (o5 o6 : Option Vv), nc' ≤ nc + 1 → ns' ≤ ns + 6 → RU Rl M' → Wm (X.at_ nc' ns') 936 (Lp7 i o5 o6) [] M') : Wm X 657 (Lp7 i none none) [] M := by
  obtain ⟨w, v, MR1, g1, g2, g3, g4, g5, g6⟩ := Orr.at_ (hops.2.2.2.2.2.2.2.2.2.2.2.1 ((xs (i + 1).toNat).toInt) ((xs (i + 2).toNat).toInt) (oI_rng _) (oI_rng _)) hops.1 hR
  refine x_aloadn dM_657 rfl ?_
  refine x_aloadn dM_658 rfl ?_
  refine x_iload dM_659 rfl ?_
  refine x_iconst dM_661 ?_
  refine x_iadd dM_662 ?_
  refine y_sld hX hb (Nat.not_le.mpr hb) ha rfl (by omega) ⟨by omega, by omega⟩ dM_663 ?_
  refine x_aloadn dM_664 rfl ?_
  refine x_iload dM_665 rfl ?_
  refine x_iconst dM_667 ?_
  refine x_iadd dM_668 ?_
  refine y_sld hX hb (Nat.not_le.mpr hb) ha rfl (by omega) ⟨by omega, by omega⟩ dM_669 ?_
  refine x_aloadn dM_670 rfl ?_
  refine y_cs X hnc (kL_read X.hst g1 (by simpa using g2) (fun z => (g3 z).1)) jL_read lM_111 rfl ⟨Nat.le_of_ble_eq_true rfl, Nat.le_of_ble_eq_true rfl, by show _ ≤ 601024; show nc + 1 ≤ _; omega, by show _ ≤ 7293034; show ns + 6 ≤ _; omega⟩ (Nat.le_of_ble_eq_true rfl) dM_671 (fun _ => rfl) (Or.inr rfl) (Or.inr rfl) ?_
  refine x_istore dM_674 (by decide) ?_
  refine x_aloadn dM_676 rfl ?_
  refine x_aloadn dM_677 rfl ?_
  refine x_iload dM_678 rfl ?_
  refine x_iconst dM_680 ?_
  refine x_iadd dM_681 ?_
  refine y_sld hX hb (Nat.not_le.mpr hb) ha rfl (by omega) ⟨by omega, by omega⟩ dM_682 ?_
  refine x_aloadn dM_683 rfl ?_
  refine x_iload dM_684 rfl ?_
  refine x_iconst dM_686 ?_
  refine x_iadd dM_687 ?_
  refine y_sld hX hb (Nat.not_le.mpr hb) ha rfl (by omega) ⟨by omega, by omega⟩ dM_688 ?_
  refine y_cv _ hnc (ctw_of (ct_emb ER (kR_read X.hst _ _ g4)) rfl) iR_read (Or.inl lM_113) tU_27 rfl rfl ⟨Nat.le_of_ble_eq_true rfl, Nat.le_of_ble_eq_true rfl, by show _ ≤ 601024; show nc + 1 + 1 ≤ _; omega, by show _ ≤ 7293034; show ns + 6 + 6 ≤ _; omega⟩ (Nat.le_of_ble_eq_true rfl) dM_689 (fun z => nomatch z) (Or.inl rfl) (Or.inl rfl) ?_
  refine x_istore dM_692 (by decide) ?_
  refine x_aloadn dM_694 rfl ?_
  refine y_cv _ hnc (ctw_of (ct_emb ER (kR_thrown X.hst _ _ rfl)) rfl) iR_thrown (Or.inl lM_74) tU_27 rfl rfl ⟨Nat.le_of_ble_eq_true rfl, Nat.le_of_ble_eq_true rfl, by show _ ≤ 601024; show nc + 1 + 0 + 1 ≤ _; omega, by show _ ≤ 7293034; show ns + 6 + 0 + 6 ≤ _; omega⟩ (Nat.le_of_ble_eq_true rfl) dM_695 (fun z => nomatch z) (Or.inl rfl) (Or.inl rfl) ?_
  rw [show ∀ z : Mm, mrg gR (fun k => z (27 + k)) z = z from fun z => mu_self]
  refine x_iload dM_698 rfl ?_
  refine y_eqj (tgt := 705) ((congrFun (mu_R (MR := MR1) (M := outm M w) (k := 0) (by decide)) 0).trans g5) (wrc_r (by decide) _) dM_700 rfl ?_
  refine x_iload dM_705 rfl ?_
  by_cases hz : w.1 = 0
  · refine y_nef (tgt := 722) (by rw [hz]; rfl) dM_707 rfl ?_
    refine x_aloadn dM_710 rfl ?_
    refine x_iconst dM_711 ?_
    refine y_same (tgt := 722) tU_46 (by decide) (w := v) (by rw [(g3 hz).2]; exact (g3 hz).1) (by show mrg gR MR1 (outm M w) 46 0 = v; rw [mu_46, om_46 hz, (g3 hz).2]) rfl dM_712 dM_713 dM_715 dM_716 dM_717 rfl ?_
    refine x_goto (tgt := 936) dM_722 rfl ?_
    exact k _ _ _ _ _ (by omega) (by omega) g6
  · refine y_nej (tgt := 722) (by have := wrc_p (cs := [2, 3]) hz; omega) (wrc_r (by decide) _) dM_707 rfl ?_
    refine x_goto (tgt := 936) dM_722 rfl ?_
    exact k _ _ _ _ _ (by omega) (by omega) g6
set_option maxHeartbeats 1000000 in
theorem z_find {Rl : Mm → Mm → Prop} {n nc ns : Nat} {xs : Nat → Int32} {i : Int} {M : Mm} (hops : Ops Rl) (X : Cl p l e s m b below meth c D aK a0 nc ns) (hnc : NcA s) (hX : va_X b n xs s s.heap) (hb : b < s.heap.size) (ha : a0 999 = b) (hn : n ≤ 2048) (hi : 0 ≤ i ∧ i + 4 ≤ n) (hk1 : nc ≤ 2000) (hk2 : ns ≤ 100000) (hR : RU Rl M) (k : ∀ (nc' ns' : Nat) (M' : Mm) (o5 o6 : Option Vv), nc' ≤ nc + 1 → ns' ≤ ns + 6 → RU Rl M' → Wm (X.at_ nc' ns') 936 (Lp7 i o5 o6) [] M') : Wm X 725 (Lp7 i none none) [] M := by
  obtain ⟨w, v, MR1, g1, g2, g3, g4, g5, g6⟩ := Orr.at_ (hops.2.2.2.2.2.2.2.2.2.2.2.2.1 ((xs (i + 1).toNat).toInt) ((xs (i + 2).toNat).toInt % 65536) (oI_rng _) ⟨by omega, by omega⟩) hops.1 hR
  refine x_aloadn dM_725 rfl ?_
  refine x_aloadn dM_726 rfl ?_
  refine x_iload dM_727 rfl ?_
  refine x_iconst dM_729 ?_
  refine x_iadd dM_730 ?_
  refine y_sld hX hb (Nat.not_le.mpr hb) ha rfl (by omega) ⟨by omega, by omega⟩ dM_731 ?_
  refine x_aloadn dM_732 rfl ?_
  refine x_iload dM_733 rfl ?_
  refine x_iconst dM_735 ?_
  refine x_iadd dM_736 ?_
  refine y_sld hX hb (Nat.not_le.mpr hb) ha rfl (by omega) ⟨by omega, by omega⟩ dM_737 ?_
  refine y_i2c dM_738 ?_
  refine x_aloadn dM_739 rfl ?_
  refine y_cs X hnc (kL_find X.hst g1 (by simpa using g2) (fun z => (g3 z).1)) jL_find lM_114 rfl ⟨Nat.le_of_ble_eq_true rfl, Nat.le_of_ble_eq_true rfl, by show _ ≤ 601024; show nc + 1 ≤ _; omega, by show _ ≤ 7293034; show ns + 6 ≤ _; omega⟩ (Nat.le_of_ble_eq_true rfl) dM_740 (fun z => nomatch z) (Or.inl rfl) (Or.inl rfl) ?_
  refine x_istore dM_743 (by decide) ?_
  refine x_aloadn dM_745 rfl ?_
  refine x_aloadn dM_746 rfl ?_
  refine x_iload dM_747 rfl ?_
  refine x_iconst dM_749 ?_
  refine x_iadd dM_750 ?_
  refine y_sld hX hb (Nat.not_le.mpr hb) ha rfl (by omega) ⟨by omega, by omega⟩ dM_751 ?_
  refine x_aloadn dM_752 rfl ?_
  refine x_iload dM_753 rfl ?_
  refine x_iconst dM_755 ?_
  refine x_iadd dM_756 ?_
  refine y_sld hX hb (Nat.not_le.mpr hb) ha rfl (by omega) ⟨by omega, by omega⟩ dM_757 ?_
  refine y_i2c dM_758 ?_
  refine y_cv _ hnc (ctw_of (ct_emb ER (kR_find X.hst _ _ g4)) rfl) iR_find (Or.inl lM_117) tU_27 rfl rfl ⟨Nat.le_of_ble_eq_true rfl, Nat.le_of_ble_eq_true rfl, by show _ ≤ 601024; show nc + 1 + 1 ≤ _; omega, by show _ ≤ 7293034; show ns + 6 + 6 ≤ _; omega⟩ (Nat.le_of_ble_eq_true rfl) dM_759 (fun z => nomatch z) (Or.inl rfl) (Or.inl rfl) ?_
  refine x_istore dM_762 (by decide) ?_
  refine x_aloadn dM_764 rfl ?_
  refine y_cv _ hnc (ctw_of (ct_emb ER (kR_thrown X.hst _ _ rfl)) rfl) iR_thrown (Or.inl lM_74) tU_27 rfl rfl ⟨Nat.le_of_ble_eq_true rfl, Nat.le_of_ble_eq_true rfl, by show _ ≤ 601024; show nc + 1 + 0 + 1 ≤ _; omega, by show _ ≤ 7293034; show ns + 6 + 0 + 6 ≤ _; omega⟩ (Nat.le_of_ble_eq_true rfl) dM_765 (fun z => nomatch z) (Or.inl rfl) (Or.inl rfl) ?_
  rw [show ∀ z : Mm, mrg gR (fun k => z (27 + k)) z = z from fun z => mu_self]
  refine x_iload dM_768 rfl ?_
  refine y_eqj (tgt := 775) ((congrFun (mu_R (MR := MR1) (M := outm M w) (k := 0) (by decide)) 0).trans g5) (wrc_r (by decide) _) dM_770 rfl ?_
  refine x_iload dM_775 rfl ?_
  by_cases hz : w.1 = 0
  · refine y_nef (tgt := 792) (by rw [hz]; rfl) dM_777 rfl ?_
    refine x_aloadn dM_780 rfl ?_
    refine x_iconst dM_781 ?_
    refine y_same (tgt := 792) tU_46 (by decide) (w := v) (by rw [(g3 hz).2]; exact (g3 hz).1) (by show mrg gR MR1 (outm M w) 46 0 = v; rw [mu_46, om_46 hz, (g3 hz).2]) rfl dM_782 dM_783 dM_785 dM_786 dM_787 rfl ?_
    refine x_goto (tgt := 936) dM_792 rfl ?_
    exact k _ _ _ _ _ (by omega) (by omega) g6
  · refine y_nej (tgt := 792) (by have := wrc_p (cs := [2, 3, 1]) hz; omega) (wrc_r (by decide) _) dM_777 rfl ?_
    refine x_goto (tgt := 936) dM_792 rfl ?_
    exact k _ _ _ _ _ (by omega) (by omega) g6
set_option maxHeartbeats 1000000 in
theorem z_resolve {Rl : Mm → Mm → Prop} {n nc ns : Nat} {xs : Nat → Int32} {i : Int} {M : Mm} (hops : Ops Rl) (X : Cl p l e s m b below meth c D aK a0 nc ns) (hnc : NcA s) (hX : va_X b n xs s s.heap) (hb : b < s.heap.size) (ha : a0 999 = b) (hn : n ≤ 2048) (hi : 0 ≤ i ∧ i + 4 ≤ n) (hk1 : nc ≤ 2000) (hk2 : ns ≤ 100000) (hR : RU Rl M) (k : ∀ (nc' ns' : Nat) (M' : Mm) (o5 o6 : Option Vv), nc' ≤ nc + 1 → ns' ≤ ns + 6 → RU Rl M' → Wm (X.at_ nc' ns') 936 (Lp7 i o5 o6) [] M') : Wm X 795 (Lp7 i none none) [] M := by
  obtain ⟨w, v, MR1, g1, g2, g3, g4, g5, g6⟩ := Orr.at_ (hops.2.2.2.2.2.2.2.2.2.2.2.2.2.1 ((xs (i + 1).toNat).toInt) (oI_rng _)) hops.1 hR
  refine x_aloadn dM_795 rfl ?_
  refine x_aloadn dM_796 rfl ?_
  refine x_iload dM_797 rfl ?_
  refine x_iconst dM_799 ?_
  refine x_iadd dM_800 ?_
  refine y_sld hX hb (Nat.not_le.mpr hb) ha rfl (by omega) ⟨by omega, by omega⟩ dM_801 ?_
  refine x_aloadn dM_802 rfl ?_
  refine y_cs X hnc (kL_resolve X.hst g1 (by simpa using g2) (fun z => (g3 z).1)) jL_resolve lM_118 rfl ⟨Nat.le_of_ble_eq_true rfl, Nat.le_of_ble_eq_true rfl, by show _ ≤ 601024; show nc + 1 ≤ _; omega, by show _ ≤ 7293034; show ns + 6 ≤ _; omega⟩ (Nat.le_of_ble_eq_true rfl) dM_803 (fun z => nomatch z) (Or.inl rfl) (Or.inl rfl) ?_
  refine x_istore dM_806 (by decide) ?_
  refine x_aloadn dM_808 rfl ?_
  refine x_aloadn dM_809 rfl ?_
  refine x_iload dM_810 rfl ?_
  refine x_iconst dM_812 ?_
  refine x_iadd dM_813 ?_
  refine y_sld hX hb (Nat.not_le.mpr hb) ha rfl (by omega) ⟨by omega, by omega⟩ dM_814 ?_
  refine y_cv _ hnc (ctw_of (ct_emb ER (kR_resolve X.hst _ _ g4)) rfl) iR_resolve (Or.inl lM_120) tU_27 rfl rfl ⟨Nat.le_of_ble_eq_true rfl, Nat.le_of_ble_eq_true rfl, by show _ ≤ 601024; show nc + 1 + 1 ≤ _; omega, by show _ ≤ 7293034; show ns + 6 + 6 ≤ _; omega⟩ (Nat.le_of_ble_eq_true rfl) dM_815 (fun z => nomatch z) (Or.inl rfl) (Or.inl rfl) ?_
  refine x_istore dM_818 (by decide) ?_
  refine x_aloadn dM_820 rfl ?_
  refine y_cv _ hnc (ctw_of (ct_emb ER (kR_thrown X.hst _ _ rfl)) rfl) iR_thrown (Or.inl lM_74) tU_27 rfl rfl ⟨Nat.le_of_ble_eq_true rfl, Nat.le_of_ble_eq_true rfl, by show _ ≤ 601024; show nc + 1 + 0 + 1 ≤ _; omega, by show _ ≤ 7293034; show ns + 6 + 0 + 6 ≤ _; omega⟩ (Nat.le_of_ble_eq_true rfl) dM_821 (fun z => nomatch z) (Or.inl rfl) (Or.inl rfl) ?_
  rw [show ∀ z : Mm, mrg gR (fun k => z (27 + k)) z = z from fun z => mu_self]
  refine x_iload dM_824 rfl ?_
  refine y_eqj (tgt := 831) ((congrFun (mu_R (MR := MR1) (M := outm M w) (k := 0) (by decide)) 0).trans g5) (wrc_r (by decide) _) dM_826 rfl ?_
  refine x_iload dM_831 rfl ?_
  by_cases hz : w.1 = 0
  · refine y_nef (tgt := 848) (by rw [hz]; rfl) dM_833 rfl ?_
    refine x_aloadn dM_836 rfl ?_
    refine x_iconst dM_837 ?_
    refine y_same (tgt := 848) tU_46 (by decide) (w := v) (by rw [(g3 hz).2]; exact (g3 hz).1) (by show mrg gR MR1 (outm M w) 46 0 = v; rw [mu_46, om_46 hz, (g3 hz).2]) rfl dM_838 dM_839 dM_841 dM_842 dM_843 rfl ?_
    refine x_goto (tgt := 936) dM_848 rfl ?_
    exact k _ _ _ _ _ (by omega) (by omega) g6
  · refine y_nej (tgt := 848) (by have := wrc_p (cs := [2]) hz; omega) (wrc_r (by decide) _) dM_833 rfl ?_
    refine x_goto (tgt := 936) dM_848 rfl ?_
    exact k _ _ _ _ _ (by omega) (by omega) g6
set_option maxHeartbeats 1000000 in
theorem z_cache {Rl : Mm → Mm → Prop} {n nc ns : Nat} {xs : Nat → Int32} {i : Int} {M : Mm} (hops : Ops Rl) (X : Cl p l e s m b below meth c D aK a0 nc ns) (hnc : NcA s) (hX : va_X b n xs s s.heap) (hb : b < s.heap.size) (ha : a0 999 = b) (hn : n ≤ 2048) (hi : 0 ≤ i ∧ i + 4 ≤ n) (hk1 : nc ≤ 2000) (hk2 : ns ≤ 100000) (hR : RU Rl M) (k : ∀ (nc' ns' : Nat) (M' : Mm) (o5 o6 : Option Vv), nc' ≤ nc + 1 → ns' ≤ ns + 6 → RU Rl M' → Wm (X.at_ nc' ns') 936 (Lp7 i o5 o6) [] M') : Wm X 851 (Lp7 i none none) [] M := by
  have hc := oI_rng (xs (i + 1).toNat)
  refine x_aloadn dM_851 rfl ?_
  refine x_aloadn dM_852 rfl ?_
  refine x_iload dM_853 rfl ?_
  refine x_iconst dM_855 ?_
  refine x_iadd dM_856 ?_
  refine y_sld hX hb (Nat.not_le.mpr hb) ha rfl (by omega) ⟨by omega, by omega⟩ dM_857 ?_
  refine y_eq0 (tgt := 865) hc dM_858 rfl (fun hz => ?_) (fun hz => ?_)
  · obtain ⟨v, MX1, MR1, g1, g4, g6⟩ := Occ.at_ (hops.2.2.2.2.2.2.2.2.2.2.2.2.2.2.1 0 (Or.inl rfl)) hops.1 hR
    refine x_iconst dM_865 ?_
    refine y_cv X hnc (ctw_of (ct_emb EX (kX_cache X.hst _ _ g1)) rfl) iX_cache (Or.inl lM_121) tU_0 rfl rfl ⟨Nat.le_of_ble_eq_true rfl, Nat.le_of_ble_eq_true rfl, by show _ ≤ 601024; show nc + 1 ≤ _; omega, by show _ ≤ 7293034; show ns + 6 ≤ _; omega⟩ (Nat.le_of_ble_eq_true rfl) dM_866 (fun z => nomatch z) (Or.inl rfl) (Or.inl rfl) ?_
    refine x_aloadn dM_869 rfl ?_
    refine x_aloadn dM_870 rfl ?_
    refine x_iload dM_871 rfl ?_
    refine x_iconst dM_873 ?_
    refine x_iadd dM_874 ?_
    refine y_sld hX hb (Nat.not_le.mpr hb) ha rfl (by omega) ⟨by omega, by omega⟩ dM_875 ?_
    refine y_eq0 (tgt := 883) hc dM_876 rfl (fun _ => ?_) (fun z => absurd hz z)
    refine x_iconst dM_883 ?_
    refine y_cv _ hnc (ctw_of (ct_emb ER (kR_cache X.hst _ _ g4)) rfl) iR_cache (Or.inl lM_125) tU_27 rfl rfl ⟨Nat.le_of_ble_eq_true rfl, Nat.le_of_ble_eq_true rfl, by show _ ≤ 601024; show nc + 0 + 1 ≤ _; omega, by show _ ≤ 7293034; show ns + 0 + 6 ≤ _; omega⟩ (Nat.le_of_ble_eq_true rfl) dM_884 (fun z => nomatch z) (Or.inl rfl) (Or.inl rfl) ?_
    refine y_eqs (tgt := 936) dM_887 rfl ?_
    exact k _ _ _ _ _ (by omega) (by omega) g6
  · obtain ⟨v, MX1, MR1, g1, g4, g6⟩ := Occ.at_ (hops.2.2.2.2.2.2.2.2.2.2.2.2.2.2.1 1 (Or.inr rfl)) hops.1 hR
    refine x_iconst dM_861 ?_
    refine x_goto (tgt := 866) dM_862 rfl ?_
    refine y_cv X hnc (ctw_of (ct_emb EX (kX_cache X.hst _ _ g1)) rfl) iX_cache (Or.inl lM_121) tU_0 rfl rfl ⟨Nat.le_of_ble_eq_true rfl, Nat.le_of_ble_eq_true rfl, by show _ ≤ 601024; show nc + 1 ≤ _; omega, by show _ ≤ 7293034; show ns + 6 ≤ _; omega⟩ (Nat.le_of_ble_eq_true rfl) dM_866 (fun z => nomatch z) (Or.inl rfl) (Or.inl rfl) ?_
    refine x_aloadn dM_869 rfl ?_
    refine x_aloadn dM_870 rfl ?_
    refine x_iload dM_871 rfl ?_
    refine x_iconst dM_873 ?_
    refine x_iadd dM_874 ?_
    refine y_sld hX hb (Nat.not_le.mpr hb) ha rfl (by omega) ⟨by omega, by omega⟩ dM_875 ?_
    refine y_eq0 (tgt := 883) hc dM_876 rfl (fun z => absurd z hz) (fun _ => ?_)
    refine x_iconst dM_879 ?_
    refine x_goto (tgt := 884) dM_880 rfl ?_
    refine y_cv _ hnc (ctw_of (ct_emb ER (kR_cache X.hst _ _ g4)) rfl) iR_cache (Or.inl lM_125) tU_27 rfl rfl ⟨Nat.le_of_ble_eq_true rfl, Nat.le_of_ble_eq_true rfl, by show _ ≤ 601024; show nc + 0 + 1 ≤ _; omega, by show _ ≤ 7293034; show ns + 0 + 6 ≤ _; omega⟩ (Nat.le_of_ble_eq_true rfl) dM_884 (fun z => nomatch z) (Or.inl rfl) (Or.inl rfl) ?_
    refine y_eqs (tgt := 936) dM_887 rfl ?_
    exact k _ _ _ _ _ (by omega) (by omega) g6
set_option maxHeartbeats 1000000 in
theorem z_check {Rl : Mm → Mm → Prop} {n nc ns : Nat} {xs : Nat → Int32} {i : Int} {M : Mm} (hops : Ops Rl) (X : Cl p l e s m b below meth c D aK a0 nc ns) (hnc : NcA s) (hX : va_X b n xs s s.heap) (hb : b < s.heap.size) (ha : a0 999 = b) (hn : n ≤ 2048) (hi : 0 ≤ i ∧ i + 4 ≤ n) (hk1 : nc ≤ 2000) (hk2 : ns ≤ 100000) (hR : RU Rl M) (k : ∀ (nc' ns' : Nat) (M' : Mm) (o5 o6 : Option Vv), nc' ≤ nc + 1 → ns' ≤ ns + 6 → RU Rl M' → Wm (X.at_ nc' ns') 936 (Lp7 i o5 o6) [] M') : Wm X 892 (Lp7 i none none) [] M := by
  obtain ⟨w, v, MR1, g1, g2, g3, g4, g5, g6⟩ := Orr.at_ hops.2.2.2.2.2.2.2.2.2.2.2.2.2.2.2 hops.1 hR
  refine x_aloadn dM_892 rfl ?_
  refine x_aloadn dM_893 rfl ?_
  refine y_cs X hnc (kL_check X.hst g1 (by simpa using g2) (fun z => (g3 z).1)) jL_check lM_126 rfl ⟨Nat.le_of_ble_eq_true rfl, Nat.le_of_ble_eq_true rfl, by show _ ≤ 601024; show nc + 1 ≤ _; omega, by show _ ≤ 7293034; show ns + 6 ≤ _; omega⟩ (Nat.le_of_ble_eq_true rfl) dM_894 (fun z => nomatch z) (Or.inl rfl) (Or.inl rfl) ?_
  refine x_istore dM_897 (by decide) ?_
  refine x_aloadn dM_899 rfl ?_
  refine y_cv _ hnc (ctw_of (ct_emb ER (kR_check0 X.hst _ _ g4)) rfl) iR_check0 (Or.inl lM_128) tU_27 rfl rfl ⟨Nat.le_of_ble_eq_true rfl, Nat.le_of_ble_eq_true rfl, by show _ ≤ 601024; show nc + 1 + 1 ≤ _; omega, by show _ ≤ 7293034; show ns + 6 + 6 ≤ _; omega⟩ (Nat.le_of_ble_eq_true rfl) dM_900 (fun z => nomatch z) (Or.inl rfl) (Or.inl rfl) ?_
  refine x_istore dM_903 (by decide) ?_
  refine x_aloadn dM_905 rfl ?_
  refine y_cv _ hnc (ctw_of (ct_emb ER (kR_thrown X.hst _ _ rfl)) rfl) iR_thrown (Or.inl lM_74) tU_27 rfl rfl ⟨Nat.le_of_ble_eq_true rfl, Nat.le_of_ble_eq_true rfl, by show _ ≤ 601024; show nc + 1 + 0 + 1 ≤ _; omega, by show _ ≤ 7293034; show ns + 6 + 0 + 6 ≤ _; omega⟩ (Nat.le_of_ble_eq_true rfl) dM_906 (fun z => nomatch z) (Or.inl rfl) (Or.inl rfl) ?_
  rw [show ∀ z : Mm, mrg gR (fun k => z (27 + k)) z = z from fun z => mu_self]
  refine x_iload dM_909 rfl ?_
  refine y_eqj (tgt := 916) ((congrFun (mu_R (MR := MR1) (M := outm M w) (k := 0) (by decide)) 0).trans g5) (wrc_r (by decide) _) dM_911 rfl ?_
  refine x_iload dM_916 rfl ?_
  by_cases hz : w.1 = 0
  · refine y_nef (tgt := 933) (by rw [hz]; rfl) dM_918 rfl ?_
    refine x_aloadn dM_921 rfl ?_
    refine x_iconst dM_922 ?_
    refine y_same (tgt := 933) tU_46 (by decide) (w := v) (by rw [(g3 hz).2]; exact (g3 hz).1) (by show mrg gR MR1 (outm M w) 46 0 = v; rw [mu_46, om_46 hz, (g3 hz).2]) rfl dM_923 dM_924 dM_926 dM_927 dM_928 rfl ?_
    refine x_goto (tgt := 936) dM_933 rfl ?_
    exact k _ _ _ _ _ (by omega) (by omega) g6
  · refine y_nej (tgt := 933) (by have := wrc_p (cs := [2]) hz; omega) (wrc_r (by decide) _) dM_918 rfl ?_
    refine x_goto (tgt := 936) dM_933 rfl ?_
    exact k _ _ _ _ _ (by omega) (by omega) g6
set_option maxHeartbeats 1000000 in
theorem z_loop {Rl : Mm → Mm → Prop} {n : Nat} {xs : Nat → Int32} (hops : Ops Rl) (X : Cl p l e s m b below meth c D aK a0 0 0) (hnc : NcA s) (hX : va_X b n xs s s.heap) (hb : b < s.heap.size) (ha : a0 999 = b) (hn : n ≤ 2048) : ∀ (d nc ns : Nat) (i : Int) (M : Mm), 0 ≤ i → i ≤ 3000 → (n : Int) ≤ i + 4 * d → nc + d ≤ 1900 → ns + 6 * d ≤ 90000 → RU Rl M → Wm (X.at_ nc ns) 23 (Lp7 i none none) [] M := by
  intro d
  induction d with
  | zero =>
    intro nc ns i M h0 h9 h1 h2 h3 hR
    refine x_iload dM_23 rfl ?_
    refine x_aloadn dM_25 rfl ?_
    refine y_slen hX hb (Nat.not_le.mpr hb) ha rfl dM_26 ?_
    refine x_iconst dM_27 ?_
    refine x_isub dM_28 ?_
    refine y_gt (tgt := 942) ⟨by omega, by omega⟩ ⟨by omega, by omega⟩ dM_29 rfl (fun _ => ?_) (fun z => by exfalso; omega)
    refine x_iconst dM_942 ?_
    exact z_end (by omega) (by omega)
  | succ d ih =>
    intro nc ns i M h0 h9 h1 h2 h3 hR
    refine x_iload dM_23 rfl ?_
    refine x_aloadn dM_25 rfl ?_
    refine y_slen hX hb (Nat.not_le.mpr hb) ha rfl dM_26 ?_
    refine x_iconst dM_27 ?_
    refine x_isub dM_28 ?_
    refine y_gt (tgt := 942) ⟨by omega, by omega⟩ ⟨by omega, by omega⟩ dM_29 rfl (fun _ => ?_) (fun hle => ?_)
    · refine x_iconst dM_942 ?_
      exact z_end (by omega) (by omega)
    have kk : ∀ (nc' ns' : Nat) (M' : Mm) (o5 o6 : Option Vv), nc' ≤ nc + 1 → ns' ≤ ns + 6 → RU Rl M' → Wm ((X.at_ nc ns).at_ nc' ns') 936 (Lp7 i o5 o6) [] M' := by
      intro nc' ns' M' o5 o6 q1 q2 q3
      refine x_iinc dM_936 rfl (by decide) ?_
      refine x_goto (tgt := 23) dM_939 rfl ?_
      refine x_mask [true, true, true, true, true, false, false] ?_
      exact ih nc' ns' (i + 4) M' (by omega) (by omega) (by omega) (by omega) (by omega) q3
    refine x_aloadn dM_32 rfl ?_
    refine x_iload dM_33 rfl ?_
    refine y_sld hX hb (Nat.not_le.mpr hb) ha rfl (by omega) ⟨by omega, by omega⟩ dM_35 ?_
    refine x_bipush dM_36 (by decide) ?_
    refine x_iandm (oI_msk _ 4 (by decide) rfl) dM_38 ?_
    have hi4 : 0 ≤ i ∧ i + 4 ≤ n := ⟨h0, by omega⟩
    generalize hzz : (xs i.toNat).toInt % 2 ^ 4 = z
    have hz : 0 ≤ z ∧ z < 16 := by rw [← hzz]; exact ⟨Int.emod_nonneg _ (by decide), Int.emod_lt_of_pos _ (by decide)⟩
    have hc : z = 0 ∨ z = 1 ∨ z = 2 ∨ z = 3 ∨ z = 4 ∨ z = 5 ∨ z = 6 ∨ z = 7 ∨ z = 8 ∨ z = 9 ∨ z = 10 ∨ z = 11 ∨ z = 12 ∨ z = 13 ∨ z = 14 ∨ z = 15 := by omega
    clear hz hzz
    rcases hc with rfl | rfl | rfl | rfl | rfl | rfl | rfl | rfl | rfl | rfl | rfl | rfl | rfl | rfl | rfl | rfl
    · refine x_table (tgt := 112) ⟨by decide, by decide⟩ dM_39 (fun _ _ => ⟨_, rfl, rfl⟩) (fun z => absurd z (by decide)) ?_
      exact z_create hops (X.at_ nc ns) hnc hX hb ha hn hi4 (by omega) (by omega) hR kk
    · refine x_table (tgt := 194) ⟨by decide, by decide⟩ dM_39 (fun _ _ => ⟨_, rfl, rfl⟩) (fun z => absurd z (by decide)) ?_
      exact z_link hops (X.at_ nc ns) hnc hX hb ha hn hi4 (by omega) (by omega) hR kk
    · refine x_table (tgt := 256) ⟨by decide, by decide⟩ dM_39 (fun _ _ => ⟨_, rfl, rfl⟩) (fun z => absurd z (by decide)) ?_
      exact z_unlink hops (X.at_ nc ns) hnc hX hb ha hn hi4 (by omega) (by omega) hR kk
    · refine x_table (tgt := 306) ⟨by decide, by decide⟩ dM_39 (fun _ _ => ⟨_, rfl, rfl⟩) (fun z => absurd z (by decide)) ?_
      exact z_append hops (X.at_ nc ns) hnc hX hb ha hn hi4 (by omega) (by omega) hR kk
    · refine x_table (tgt := 374) ⟨by decide, by decide⟩ dM_39 (fun _ _ => ⟨_, rfl, rfl⟩) (fun z => absurd z (by decide)) ?_
      exact z_build hops (X.at_ nc ns) hnc hX hb ha hn hi4 (by omega) (by omega) hR kk
    · refine x_table (tgt := 430) ⟨by decide, by decide⟩ dM_39 (fun _ _ => ⟨_, rfl, rfl⟩) (fun z => absurd z (by decide)) ?_
      exact z_peek hops (X.at_ nc ns) hnc hX hb ha hn hi4 (by omega) (by omega) hR kk
    · refine x_table (tgt := 486) ⟨by decide, by decide⟩ dM_39 (fun _ _ => ⟨_, rfl, rfl⟩) (fun z => absurd z (by decide)) ?_
      exact z_poke hops (X.at_ nc ns) hnc hX hb ha hn hi4 (by omega) (by omega) hR kk
    · refine x_table (tgt := 534) ⟨by decide, by decide⟩ dM_39 (fun _ _ => ⟨_, rfl, rfl⟩) (fun z => absurd z (by decide)) ?_
      exact z_seal hops (X.at_ nc ns) hnc hX hb ha hn hi4 (by omega) (by omega) hR kk
    · refine x_table (tgt := 545) ⟨by decide, by decide⟩ dM_39 (fun _ _ => ⟨_, rfl, rfl⟩) (fun z => absurd z (by decide)) ?_
      exact z_mount hops (X.at_ nc ns) hnc hX hb ha hn hi4 (by omega) (by omega) hR kk
    · refine x_table (tgt := 589) ⟨by decide, by decide⟩ dM_39 (fun _ _ => ⟨_, rfl, rfl⟩) (fun z => absurd z (by decide)) ?_
      exact z_stat hops (X.at_ nc ns) hnc hX hb ha hn hi4 (by omega) (by omega) hR kk
    · refine x_table (tgt := 657) ⟨by decide, by decide⟩ dM_39 (fun _ _ => ⟨_, rfl, rfl⟩) (fun z => absurd z (by decide)) ?_
      exact z_read hops (X.at_ nc ns) hnc hX hb ha hn hi4 (by omega) (by omega) hR kk
    · refine x_table (tgt := 725) ⟨by decide, by decide⟩ dM_39 (fun _ _ => ⟨_, rfl, rfl⟩) (fun z => absurd z (by decide)) ?_
      exact z_find hops (X.at_ nc ns) hnc hX hb ha hn hi4 (by omega) (by omega) hR kk
    · refine x_table (tgt := 795) ⟨by decide, by decide⟩ dM_39 (fun _ _ => ⟨_, rfl, rfl⟩) (fun z => absurd z (by decide)) ?_
      exact z_resolve hops (X.at_ nc ns) hnc hX hb ha hn hi4 (by omega) (by omega) hR kk
    · refine x_table (tgt := 851) ⟨by decide, by decide⟩ dM_39 (fun _ _ => ⟨_, rfl, rfl⟩) (fun z => absurd z (by decide)) ?_
      exact z_cache hops (X.at_ nc ns) hnc hX hb ha hn hi4 (by omega) (by omega) hR kk
    · refine x_table (tgt := 892) ⟨by decide, by decide⟩ dM_39 (fun _ _ => ⟨_, rfl, rfl⟩) (fun z => absurd z (by decide)) ?_
      exact z_check hops (X.at_ nc ns) hnc hX hb ha hn hi4 (by omega) (by omega) hR kk
    · refine x_table (tgt := 936) ⟨by decide, by decide⟩ dM_39 (fun _ z => absurd (by decide) z) (fun _ => rfl) ?_
      exact kk _ _ _ _ _ (by omega) (by omega) hR
end LM
