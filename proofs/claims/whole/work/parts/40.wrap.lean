theorem chk {T : List Sh} {P : Nat → Sh → Bool} (h : (List.range T.length).all (fun k => match T[k]? with | some sh => P k sh | none => true) = true) : ∀ (k : Nat) (sh : Sh), T[k]? = some sh → P k sh = true := by
  intro k sh hk
  have h1 := List.all_eq_true.mp h k (List.mem_range.mpr (List.getElem?_eq_some_iff.mp hk).1)
  rw [hk] at h1
  exact h1
theorem ren_id (sh : Sh) : ren (fun k => k) sh = sh := by
  cases sh with
  | inl o =>
    show Sum.inl (o.1, o.2.map (Option.map (fun k => k))) = Sum.inl o
    have h : o.2.map (Option.map (fun k => k)) = o.2 := by
      rw [show (Option.map (fun k : Nat => k)) = id from funext fun x => by cases x <;> rfl, List.map_id]
    rw [h]
  | inr a => rfl
theorem TXl : TX.length = 27 := rfl
theorem TRl : TR.length = 19 := rfl
theorem EX : Emb TX TU mvX mvU (fun k => k) gX := by
  refine ⟨fun k hk => ?_, fun k hk => ?_, fun j k h => ?_, fun k sh h q hq => ?_, fun j sh h hj q hq => ?_, fun k hk => rfl⟩
  · show TU[k]? = _
    unfold TU
    rw [List.append_assoc, List.getElem?_append_left hk]
    cases TX[k]? with
    | none => rfl
    | some sh => show some sh = some (ren _ sh); rw [ren_id]
  · show gX k = some k
    unfold gX; rw [if_pos (show k < 27 from hk)]
  · unfold gX at h
    by_cases hj : j < 27
    · rw [if_pos hj] at h; cases h; exact ⟨hj, rfl⟩
    · rw [if_neg hj] at h; cases h
  · have h1 := chk (T := TX) (P := fun _ sh => (shr sh).all (fun q => decide (q < 27))) (by decide +kernel) k sh h
    exact of_decide_eq_true (List.all_eq_true.mp h1 q hq)
  · have h1 := chk (T := TU) (P := fun j sh => (gX j).isSome || (shr sh).all (fun q => (gX q).isNone)) (by decide +kernel) j sh h
    rw [hj] at h1
    have h2 : (shr sh).all (fun q => (gX q).isNone) = true := h1
    exact Option.isNone_iff_eq_none.mp (List.all_eq_true.mp h2 q hq)
theorem mvX_hi {q : Nat} (h : 27 ≤ q) : mvX q = false := by
  unfold mvX
  have h2 : Nat.ble q 25 = false := by
    cases hb : Nat.ble q 25 with
    | false => rfl
    | true => have := Nat.le_of_ble_eq_true hb; omega
  rw [h2, Bool.and_false]
theorem ER : Emb TR TU mvR mvU (fun k => 27 + k) gR := by
  refine ⟨fun k hk => ?_, fun k hk => ?_, fun j k h => ?_, fun k sh h q hq => ?_, fun j sh h hj q hq => ?_, fun k hk => mvX_hi (Nat.le_add_right 27 k)⟩
  · have hk' : k < 19 := hk
    show TU[27 + k]? = _
    unfold TU
    rw [List.append_assoc, List.getElem?_append_right (by rw [TXl]; omega), TXl, List.getElem?_append_left (by rw [List.length_map, TRl]; omega), List.getElem?_map, show 27 + k - 27 = k by omega]
  · have hk' : k < 19 := hk
    show gR (27 + k) = some k
    unfold gR; rw [if_pos ⟨by omega, by omega⟩, show 27 + k - 27 = k by omega]
  · unfold gR at h
    by_cases hj : 27 ≤ j ∧ j < 46
    · rw [if_pos hj] at h; cases h; exact ⟨by rw [TRl]; omega, by show j = 27 + (j - 27); omega⟩
    · rw [if_neg hj] at h; cases h
  · have h1 := chk (T := TR) (P := fun _ sh => (shr sh).all (fun q => decide (q < 19))) (by decide +kernel) k sh h
    exact of_decide_eq_true (List.all_eq_true.mp h1 q hq)
  · have h1 := chk (T := TU) (P := fun j sh => (gR j).isSome || (shr sh).all (fun q => (gR q).isNone)) (by decide +kernel) j sh h
    rw [hj] at h1
    have h2 : (shr sh).all (fun q => (gR q).isNone) = true := h1
    exact Option.isNone_iff_eq_none.mp (List.all_eq_true.mp h2 q hq)
theorem tU_0 : TU[0]? = some (.inl (0, [some 1, some 7, some 16, some 19, some 26, none])) := rfl
theorem tU_27 : TU[27]? = some (.inl (7, [none, none, some 28, some 29, some 30, some 31, some 32, some 33, some 34, some 35, some 36, some 37, some 38, some 39, none, none, some 40, none, none, none, some 41, some 42, some 43, some 44, none, none, some 45, none])) := rfl
theorem tU_46 : TU[46]? = some (.inr (2, 1)) := rfl
def wrc (cs : List Nat) (cd : Nat) : Int := if cd = 0 then 0 else ((cs.findIdx (fun z => z == cd) : Nat) : Int) + 1
def outm (M : Mm) (w : Nat × Int × Mm) : Mm := if w.1 = 0 then st (mrg gX w.2.2 M) 46 0 w.2.1 else mrg gX w.2.2 M
theorem ca_1 : Cond.castable (exN 1) "java/lang/IllegalArgumentException" ∈ WA := wa 256 (by decide +kernel) rfl
theorem ca_2 : Cond.castable (exN 2) "java/lang/IllegalStateException" ∈ WA := wa 343 (by decide +kernel) rfl
theorem ca_3 : Cond.castable (exN 3) "java/lang/IndexOutOfBoundsException" ∈ WA := wa 545 (by decide +kernel) rfl
theorem ca_4 : Cond.castable (exN 4) "java/lang/UnsupportedOperationException" ∈ WA := wa 513 (by decide +kernel) rfl
def yL_create : MethodName := ⟨"PackedImageLaw", "create", "(LPackedImage;IIC[J)I"⟩
abbrev cL_create : ByteArray := method_3_code
theorem jL_create : MT yL_create cL_create 6 (some .int) [(0, 12, 15, 13), (0, 12, 19, 15)] 5 := ⟨wa 247 (by decide +kernel) rfl, wa 246 (by decide +kernel) rfl, wa 0 (by decide +kernel) rfl, by decide, rfl⟩
theorem dL_create_0 : decode cL_create 0 = .ok (.aload 4, 2) := by decide +kernel
theorem dL_create_2 : decode cL_create 2 = .ok (.iconst 0, 1) := by decide +kernel
theorem dL_create_3 : decode cL_create 3 = .ok (.aload_n 0, 1) := by decide +kernel
theorem dL_create_4 : decode cL_create 4 = .ok (.iload_n 1, 1) := by decide +kernel
theorem dL_create_5 : decode cL_create 5 = .ok (.iload_n 2, 1) := by decide +kernel
theorem dL_create_6 : decode cL_create 6 = .ok (.iload_n 3, 1) := by decide +kernel
theorem dL_create_7 : decode cL_create 7 = .ok (.invokevirtual 7, 3) := by decide +kernel
theorem dL_create_10 : decode cL_create 10 = .ok (.i2l, 1) := by decide +kernel
theorem dL_create_11 : decode cL_create 11 = .ok (.lastore, 1) := by decide +kernel
theorem dL_create_12 : decode cL_create 12 = .ok (.goto 11, 3) := by decide +kernel
theorem dL_create_15 : decode cL_create 15 = .ok (.astore 5, 2) := by decide +kernel
theorem dL_create_17 : decode cL_create 17 = .ok (.iconst 1, 1) := by decide +kernel
theorem dL_create_18 : decode cL_create 18 = .ok (.ireturn, 1) := by decide +kernel
theorem dL_create_19 : decode cL_create 19 = .ok (.astore 5, 2) := by decide +kernel
theorem dL_create_21 : decode cL_create 21 = .ok (.iconst 2, 1) := by decide +kernel
theorem dL_create_22 : decode cL_create 22 = .ok (.ireturn, 1) := by decide +kernel
theorem dL_create_23 : decode cL_create 23 = .ok (.iconst 0, 1) := by decide +kernel
theorem dL_create_24 : decode cL_create 24 = .ok (.ireturn, 1) := by decide +kernel
theorem lL_7 : Cond.methodLink "PackedImageLaw" 7 yX_create ∈ WA := wa 250 (by decide +kernel) rfl
theorem kL_create {l : Launch} (hl : l.stackTraces = false) {M : Mm} {x1 : Int} {x2 : Int} {x3 : Int} {w : Nat × Int × Mm} (hf : fX_create x1 x2 x3 M = some w) (hw : w.1 = 0 ∨ w.1 = 1 ∨ w.1 = 2) (hv : w.1 = 0 → rI w.2.1) : CtW l yL_create (rmn 9 157) TU mvU false (some .int) [.inr 0, .inl x1, .inl x2, .inl x3, .inr 46] M (wrc [1, 2] w.1) (outm M w) 1 6 := by
  obtain ⟨cd, v, M1⟩ := w
  refine ctw_body hl (by decide) jL_create.1 (Nat.le_of_ble_eq_true rfl) (fun X hnc htab => ?_)
  refine x_aload dL_create_0 rfl ?_
  refine x_iconst dL_create_2 ?_
  refine x_aloadn dL_create_3 rfl ?_
  refine x_iloadn dL_create_4 rfl ?_
  refine x_iloadn dL_create_5 rfl ?_
  refine x_iloadn dL_create_6 rfl ?_
  refine y_try X (ct_emb EX (kX_create hl _ hf)) iX_create lL_7 tU_0 rfl rfl ⟨Nat.le_of_ble_eq_true rfl, Nat.le_of_ble_eq_true rfl, Nat.le_of_ble_eq_true rfl, Nat.le_of_ble_eq_true rfl⟩ (Nat.le_of_ble_eq_true rfl) dL_create_7 (fun z => nomatch z) (Or.inl rfl) (Or.inl rfl) (fun z => ?_) (fun z => ?_)
  · have z : cd = 0 := z
    subst z
    refine y_out tU_46 (by decide) (hv rfl) dL_create_10 dL_create_11 ?_
    refine x_goto (tgt := 23) dL_create_12 rfl ?_
    refine x_iconst dL_create_23 ?_
    exact y_iret rfl (by decide) rfl dL_create_24
  · rcases hw with h | h | h
    · exact absurd h z
    · have h : cd = 1 := h
      subst h
      exact ⟨[], mkE (0, 12, 15, 13), [mkE (0, 12, 19, 15)], "java/lang/IllegalArgumentException", 5, 2, htab, (fun _ h => nomatch h), rfl, by decide, wa 248 (by decide +kernel) rfl, ca_1, by decide, Or.inl ⟨dL_create_15, rfl⟩, x_iconst dL_create_17 (y_iret rfl (by decide) rfl dL_create_18)⟩
    · have h : cd = 2 := h
      subst h
      exact ⟨[mkE (0, 12, 15, 13)], mkE (0, 12, 19, 15), [], "java/lang/IllegalStateException", 5, 2, htab, List.forall_mem_cons.mpr ⟨Or.inr ⟨by decide, "java/lang/IllegalArgumentException", wa 248 (by decide +kernel) rfl, hnc _ (List.mem_of_getElem? (i := 0) rfl)⟩, (fun _ h => nomatch h)⟩, rfl, by decide, wa 249 (by decide +kernel) rfl, ca_2, by decide, Or.inl ⟨dL_create_19, rfl⟩, x_iconst dL_create_21 (y_iret rfl (by decide) rfl dL_create_22)⟩
def yL_link : MethodName := ⟨"PackedImageLaw", "link", "(LPackedImage;IIC)I"⟩
abbrev cL_link : ByteArray := method_4_code
theorem jL_link : MT yL_link cL_link 5 (some .int) [(0, 7, 10, 13)] 4 := ⟨wa 366 (by decide +kernel) rfl, wa 365 (by decide +kernel) rfl, wa 0 (by decide +kernel) rfl, by decide, rfl⟩
theorem dL_link_0 : decode cL_link 0 = .ok (.aload_n 0, 1) := by decide +kernel
theorem dL_link_1 : decode cL_link 1 = .ok (.iload_n 1, 1) := by decide +kernel
theorem dL_link_2 : decode cL_link 2 = .ok (.iload_n 2, 1) := by decide +kernel
theorem dL_link_3 : decode cL_link 3 = .ok (.iload_n 3, 1) := by decide +kernel
theorem dL_link_4 : decode cL_link 4 = .ok (.invokevirtual 17, 3) := by decide +kernel
theorem dL_link_7 : decode cL_link 7 = .ok (.goto 7, 3) := by decide +kernel
theorem dL_link_10 : decode cL_link 10 = .ok (.astore 4, 2) := by decide +kernel
theorem dL_link_12 : decode cL_link 12 = .ok (.iconst 1, 1) := by decide +kernel
theorem dL_link_13 : decode cL_link 13 = .ok (.ireturn, 1) := by decide +kernel
theorem dL_link_14 : decode cL_link 14 = .ok (.iconst 0, 1) := by decide +kernel
theorem dL_link_15 : decode cL_link 15 = .ok (.ireturn, 1) := by decide +kernel
theorem lL_17 : Cond.methodLink "PackedImageLaw" 17 yX_link ∈ WA := wa 367 (by decide +kernel) rfl
theorem kL_link {l : Launch} (hl : l.stackTraces = false) {M : Mm} {x1 : Int} {x2 : Int} {x3 : Int} {w : Nat × Int × Mm} (hf : fX_link x1 x2 x3 M = some w) (hw : w.1 = 0 ∨ w.1 = 1) : CtW l yL_link (rmn 9 156) TU mvU false (some .int) [.inr 0, .inl x1, .inl x2, .inl x3] M (wrc [1] w.1) (mrg gX w.2.2 M) 1 6 := by
  obtain ⟨cd, v, M1⟩ := w
  refine ctw_body hl (by decide) jL_link.1 (Nat.le_of_ble_eq_true rfl) (fun X hnc htab => ?_)
  refine x_aloadn dL_link_0 rfl ?_
  refine x_iloadn dL_link_1 rfl ?_
  refine x_iloadn dL_link_2 rfl ?_
  refine x_iloadn dL_link_3 rfl ?_
  refine y_try X (ct_emb EX (kX_link hl _ hf)) iX_link lL_17 tU_0 rfl rfl ⟨Nat.le_of_ble_eq_true rfl, Nat.le_of_ble_eq_true rfl, Nat.le_of_ble_eq_true rfl, Nat.le_of_ble_eq_true rfl⟩ (Nat.le_of_ble_eq_true rfl) dL_link_4 (fun z => nomatch z) (Or.inl rfl) (Or.inl rfl) (fun z => ?_) (fun z => ?_)
  · have z : cd = 0 := z
    subst z
    refine x_goto (tgt := 14) dL_link_7 rfl ?_
    refine x_iconst dL_link_14 ?_
    exact y_iret rfl (by decide) rfl dL_link_15
  · rcases hw with h | h
    · exact absurd h z
    · have h : cd = 1 := h
      subst h
      exact ⟨[], mkE (0, 7, 10, 13), [], "java/lang/IllegalArgumentException", 4, 2, htab, (fun _ h => nomatch h), rfl, by decide, wa 248 (by decide +kernel) rfl, ca_1, by decide, Or.inl ⟨dL_link_10, rfl⟩, x_iconst dL_link_12 (y_iret rfl (by decide) rfl dL_link_13)⟩
def yL_unlink : MethodName := ⟨"PackedImageLaw", "unlink", "(LPackedImage;IC)I"⟩
abbrev cL_unlink : ByteArray := method_5_code
theorem jL_unlink : MT yL_unlink cL_unlink 4 (some .int) [(0, 6, 9, 13)] 3 := ⟨wa 373 (by decide +kernel) rfl, wa 372 (by decide +kernel) rfl, wa 0 (by decide +kernel) rfl, by decide, rfl⟩
theorem dL_unlink_0 : decode cL_unlink 0 = .ok (.aload_n 0, 1) := by decide +kernel
theorem dL_unlink_1 : decode cL_unlink 1 = .ok (.iload_n 1, 1) := by decide +kernel
theorem dL_unlink_2 : decode cL_unlink 2 = .ok (.iload_n 2, 1) := by decide +kernel
theorem dL_unlink_3 : decode cL_unlink 3 = .ok (.invokevirtual 21, 3) := by decide +kernel
theorem dL_unlink_6 : decode cL_unlink 6 = .ok (.goto 6, 3) := by decide +kernel
theorem dL_unlink_9 : decode cL_unlink 9 = .ok (.astore_n 3, 1) := by decide +kernel
theorem dL_unlink_10 : decode cL_unlink 10 = .ok (.iconst 1, 1) := by decide +kernel
theorem dL_unlink_11 : decode cL_unlink 11 = .ok (.ireturn, 1) := by decide +kernel
theorem dL_unlink_12 : decode cL_unlink 12 = .ok (.iconst 0, 1) := by decide +kernel
theorem dL_unlink_13 : decode cL_unlink 13 = .ok (.ireturn, 1) := by decide +kernel
theorem lL_21 : Cond.methodLink "PackedImageLaw" 21 yX_unlink ∈ WA := wa 374 (by decide +kernel) rfl
theorem kL_unlink {l : Launch} (hl : l.stackTraces = false) {M : Mm} {x1 : Int} {x2 : Int} {w : Nat × Int × Mm} (hf : fX_unlink x1 x2 M = some w) (hw : w.1 = 0 ∨ w.1 = 1) : CtW l yL_unlink (rmn 8 133) TU mvU false (some .int) [.inr 0, .inl x1, .inl x2] M (wrc [1] w.1) (mrg gX w.2.2 M) 1 6 := by
  obtain ⟨cd, v, M1⟩ := w
  refine ctw_body hl (by decide) jL_unlink.1 (Nat.le_of_ble_eq_true rfl) (fun X hnc htab => ?_)
  refine x_aloadn dL_unlink_0 rfl ?_
  refine x_iloadn dL_unlink_1 rfl ?_
  refine x_iloadn dL_unlink_2 rfl ?_
  refine y_try X (ct_emb EX (kX_unlink hl _ hf)) iX_unlink lL_21 tU_0 rfl rfl ⟨Nat.le_of_ble_eq_true rfl, Nat.le_of_ble_eq_true rfl, Nat.le_of_ble_eq_true rfl, Nat.le_of_ble_eq_true rfl⟩ (Nat.le_of_ble_eq_true rfl) dL_unlink_3 (fun z => nomatch z) (Or.inl rfl) (Or.inl rfl) (fun z => ?_) (fun z => ?_)
  · have z : cd = 0 := z
    subst z
    refine x_goto (tgt := 12) dL_unlink_6 rfl ?_
    refine x_iconst dL_unlink_12 ?_
    exact y_iret rfl (by decide) rfl dL_unlink_13
  · rcases hw with h | h
    · exact absurd h z
    · have h : cd = 1 := h
      subst h
      exact ⟨[], mkE (0, 6, 9, 13), [], "java/lang/IllegalArgumentException", 3, 1, htab, (fun _ h => nomatch h), rfl, by decide, wa 248 (by decide +kernel) rfl, ca_1, by decide, Or.inr ⟨3, rfl, dL_unlink_9, rfl⟩, x_iconst dL_unlink_10 (y_iret rfl (by decide) rfl dL_unlink_11)⟩
def yL_append : MethodName := ⟨"PackedImageLaw", "append", "(LPackedImage;II[J)I"⟩
abbrev cL_append : ByteArray := method_6_code
theorem jL_append : MT yL_append cL_append 5 (some .int) [(0, 10, 13, 13), (0, 10, 17, 15)] 4 := ⟨wa 385 (by decide +kernel) rfl, wa 384 (by decide +kernel) rfl, wa 0 (by decide +kernel) rfl, by decide, rfl⟩
theorem dL_append_0 : decode cL_append 0 = .ok (.aload_n 3, 1) := by decide +kernel
theorem dL_append_1 : decode cL_append 1 = .ok (.iconst 0, 1) := by decide +kernel
theorem dL_append_2 : decode cL_append 2 = .ok (.aload_n 0, 1) := by decide +kernel
theorem dL_append_3 : decode cL_append 3 = .ok (.iload_n 1, 1) := by decide +kernel
theorem dL_append_4 : decode cL_append 4 = .ok (.iload_n 2, 1) := by decide +kernel
theorem dL_append_5 : decode cL_append 5 = .ok (.invokevirtual 25, 3) := by decide +kernel
theorem dL_append_8 : decode cL_append 8 = .ok (.i2l, 1) := by decide +kernel
theorem dL_append_9 : decode cL_append 9 = .ok (.lastore, 1) := by decide +kernel
theorem dL_append_10 : decode cL_append 10 = .ok (.goto 11, 3) := by decide +kernel
theorem dL_append_13 : decode cL_append 13 = .ok (.astore 4, 2) := by decide +kernel
theorem dL_append_15 : decode cL_append 15 = .ok (.iconst 1, 1) := by decide +kernel
theorem dL_append_16 : decode cL_append 16 = .ok (.ireturn, 1) := by decide +kernel
theorem dL_append_17 : decode cL_append 17 = .ok (.astore 4, 2) := by decide +kernel
theorem dL_append_19 : decode cL_append 19 = .ok (.iconst 2, 1) := by decide +kernel
theorem dL_append_20 : decode cL_append 20 = .ok (.ireturn, 1) := by decide +kernel
theorem dL_append_21 : decode cL_append 21 = .ok (.iconst 0, 1) := by decide +kernel
theorem dL_append_22 : decode cL_append 22 = .ok (.ireturn, 1) := by decide +kernel
theorem lL_25 : Cond.methodLink "PackedImageLaw" 25 yX_append ∈ WA := wa 386 (by decide +kernel) rfl
theorem kL_append {l : Launch} (hl : l.stackTraces = false) {M : Mm} {x1 : Int} {x2 : Int} {w : Nat × Int × Mm} (hf : fX_append x1 x2 M = some w) (hw : w.1 = 0 ∨ w.1 = 1 ∨ w.1 = 2) (hv : w.1 = 0 → rI w.2.1) : CtW l yL_append (rmn 7 113) TU mvU false (some .int) [.inr 0, .inl x1, .inl x2, .inr 46] M (wrc [1, 2] w.1) (outm M w) 1 6 := by
  obtain ⟨cd, v, M1⟩ := w
  refine ctw_body hl (by decide) jL_append.1 (Nat.le_of_ble_eq_true rfl) (fun X hnc htab => ?_)
  refine x_aloadn dL_append_0 rfl ?_
  refine x_iconst dL_append_1 ?_
  refine x_aloadn dL_append_2 rfl ?_
  refine x_iloadn dL_append_3 rfl ?_
  refine x_iloadn dL_append_4 rfl ?_
  refine y_try X (ct_emb EX (kX_append hl _ hf)) iX_append lL_25 tU_0 rfl rfl ⟨Nat.le_of_ble_eq_true rfl, Nat.le_of_ble_eq_true rfl, Nat.le_of_ble_eq_true rfl, Nat.le_of_ble_eq_true rfl⟩ (Nat.le_of_ble_eq_true rfl) dL_append_5 (fun z => nomatch z) (Or.inl rfl) (Or.inl rfl) (fun z => ?_) (fun z => ?_)
  · have z : cd = 0 := z
    subst z
    refine y_out tU_46 (by decide) (hv rfl) dL_append_8 dL_append_9 ?_
    refine x_goto (tgt := 21) dL_append_10 rfl ?_
    refine x_iconst dL_append_21 ?_
    exact y_iret rfl (by decide) rfl dL_append_22
  · rcases hw with h | h | h
    · exact absurd h z
    · have h : cd = 1 := h
      subst h
      exact ⟨[], mkE (0, 10, 13, 13), [mkE (0, 10, 17, 15)], "java/lang/IllegalArgumentException", 4, 2, htab, (fun _ h => nomatch h), rfl, by decide, wa 248 (by decide +kernel) rfl, ca_1, by decide, Or.inl ⟨dL_append_13, rfl⟩, x_iconst dL_append_15 (y_iret rfl (by decide) rfl dL_append_16)⟩
    · have h : cd = 2 := h
      subst h
      exact ⟨[mkE (0, 10, 13, 13)], mkE (0, 10, 17, 15), [], "java/lang/IllegalStateException", 4, 2, htab, List.forall_mem_cons.mpr ⟨Or.inr ⟨by decide, "java/lang/IllegalArgumentException", wa 248 (by decide +kernel) rfl, hnc _ (List.mem_of_getElem? (i := 0) rfl)⟩, (fun _ h => nomatch h)⟩, rfl, by decide, wa 249 (by decide +kernel) rfl, ca_2, by decide, Or.inl ⟨dL_append_17, rfl⟩, x_iconst dL_append_19 (y_iret rfl (by decide) rfl dL_append_20)⟩
def yL_build : MethodName := ⟨"PackedImageLaw", "build", "(LPackedImage;I[J)I"⟩
abbrev cL_build : ByteArray := method_7_code
theorem jL_build : MT yL_build cL_build 4 (some .int) [(0, 9, 12, 13), (0, 9, 15, 33)] 3 := ⟨wa 400 (by decide +kernel) rfl, wa 399 (by decide +kernel) rfl, wa 0 (by decide +kernel) rfl, by decide, rfl⟩
theorem dL_build_0 : decode cL_build 0 = .ok (.aload_n 2, 1) := by decide +kernel
theorem dL_build_1 : decode cL_build 1 = .ok (.iconst 0, 1) := by decide +kernel
theorem dL_build_2 : decode cL_build 2 = .ok (.aload_n 0, 1) := by decide +kernel
theorem dL_build_3 : decode cL_build 3 = .ok (.iload_n 1, 1) := by decide +kernel
theorem dL_build_4 : decode cL_build 4 = .ok (.invokevirtual 29, 3) := by decide +kernel
theorem dL_build_7 : decode cL_build 7 = .ok (.i2l, 1) := by decide +kernel
theorem dL_build_8 : decode cL_build 8 = .ok (.lastore, 1) := by decide +kernel
theorem dL_build_9 : decode cL_build 9 = .ok (.goto 9, 3) := by decide +kernel
theorem dL_build_12 : decode cL_build 12 = .ok (.astore_n 3, 1) := by decide +kernel
theorem dL_build_13 : decode cL_build 13 = .ok (.iconst 1, 1) := by decide +kernel
theorem dL_build_14 : decode cL_build 14 = .ok (.ireturn, 1) := by decide +kernel
theorem dL_build_15 : decode cL_build 15 = .ok (.astore_n 3, 1) := by decide +kernel
theorem dL_build_16 : decode cL_build 16 = .ok (.iconst 2, 1) := by decide +kernel
theorem dL_build_17 : decode cL_build 17 = .ok (.ireturn, 1) := by decide +kernel
theorem dL_build_18 : decode cL_build 18 = .ok (.iconst 0, 1) := by decide +kernel
theorem dL_build_19 : decode cL_build 19 = .ok (.ireturn, 1) := by decide +kernel
theorem lL_29 : Cond.methodLink "PackedImageLaw" 29 yX_build ∈ WA := wa 402 (by decide +kernel) rfl
theorem kL_build {l : Launch} (hl : l.stackTraces = false) {M : Mm} {x1 : Int} {w : Nat × Int × Mm} (hf : fX_build x1 M = some w) (hw : w.1 = 0 ∨ w.1 = 1 ∨ w.1 = 4) (hv : w.1 = 0 → rI w.2.1) : CtW l yL_build (rmn 8 185) TU mvU false (some .int) [.inr 0, .inl x1, .inr 46] M (wrc [1, 4] w.1) (outm M w) 1 6 := by
  obtain ⟨cd, v, M1⟩ := w
  refine ctw_body hl (by decide) jL_build.1 (Nat.le_of_ble_eq_true rfl) (fun X hnc htab => ?_)
  refine x_aloadn dL_build_0 rfl ?_
  refine x_iconst dL_build_1 ?_
  refine x_aloadn dL_build_2 rfl ?_
  refine x_iloadn dL_build_3 rfl ?_
  refine y_try X (ct_emb EX (kX_build hl _ hf)) iX_build lL_29 tU_0 rfl rfl ⟨Nat.le_of_ble_eq_true rfl, Nat.le_of_ble_eq_true rfl, Nat.le_of_ble_eq_true rfl, Nat.le_of_ble_eq_true rfl⟩ (Nat.le_of_ble_eq_true rfl) dL_build_4 (fun z => nomatch z) (Or.inl rfl) (Or.inl rfl) (fun z => ?_) (fun z => ?_)
  · have z : cd = 0 := z
    subst z
    refine y_out tU_46 (by decide) (hv rfl) dL_build_7 dL_build_8 ?_
    refine x_goto (tgt := 18) dL_build_9 rfl ?_
    refine x_iconst dL_build_18 ?_
    exact y_iret rfl (by decide) rfl dL_build_19
  · rcases hw with h | h | h
    · exact absurd h z
    · have h : cd = 1 := h
      subst h
      exact ⟨[], mkE (0, 9, 12, 13), [mkE (0, 9, 15, 33)], "java/lang/IllegalArgumentException", 3, 1, htab, (fun _ h => nomatch h), rfl, by decide, wa 248 (by decide +kernel) rfl, ca_1, by decide, Or.inr ⟨3, rfl, dL_build_12, rfl⟩, x_iconst dL_build_13 (y_iret rfl (by decide) rfl dL_build_14)⟩
    · have h : cd = 4 := h
      subst h
      exact ⟨[mkE (0, 9, 12, 13)], mkE (0, 9, 15, 33), [], "java/lang/UnsupportedOperationException", 3, 1, htab, List.forall_mem_cons.mpr ⟨Or.inr ⟨by decide, "java/lang/IllegalArgumentException", wa 248 (by decide +kernel) rfl, hnc _ (List.mem_of_getElem? (i := 4) rfl)⟩, (fun _ h => nomatch h)⟩, rfl, by decide, wa 401 (by decide +kernel) rfl, ca_4, by decide, Or.inr ⟨3, rfl, dL_build_15, rfl⟩, x_iconst dL_build_16 (y_iret rfl (by decide) rfl dL_build_17)⟩
def yL_peek : MethodName := ⟨"PackedImageLaw", "peek", "(LPackedImage;I[J)I"⟩
abbrev cL_peek : ByteArray := method_8_code
theorem jL_peek : MT yL_peek cL_peek 4 (some .int) [(0, 9, 12, 38)] 3 := ⟨wa 533 (by decide +kernel) rfl, wa 532 (by decide +kernel) rfl, wa 0 (by decide +kernel) rfl, by decide, rfl⟩
theorem dL_peek_0 : decode cL_peek 0 = .ok (.aload_n 2, 1) := by decide +kernel
theorem dL_peek_1 : decode cL_peek 1 = .ok (.iconst 0, 1) := by decide +kernel
theorem dL_peek_2 : decode cL_peek 2 = .ok (.aload_n 0, 1) := by decide +kernel
theorem dL_peek_3 : decode cL_peek 3 = .ok (.iload_n 1, 1) := by decide +kernel
theorem dL_peek_4 : decode cL_peek 4 = .ok (.invokevirtual 35, 3) := by decide +kernel
theorem dL_peek_7 : decode cL_peek 7 = .ok (.i2l, 1) := by decide +kernel
theorem dL_peek_8 : decode cL_peek 8 = .ok (.lastore, 1) := by decide +kernel
theorem dL_peek_9 : decode cL_peek 9 = .ok (.goto 6, 3) := by decide +kernel
theorem dL_peek_12 : decode cL_peek 12 = .ok (.astore_n 3, 1) := by decide +kernel
theorem dL_peek_13 : decode cL_peek 13 = .ok (.iconst 1, 1) := by decide +kernel
theorem dL_peek_14 : decode cL_peek 14 = .ok (.ireturn, 1) := by decide +kernel
theorem dL_peek_15 : decode cL_peek 15 = .ok (.iconst 0, 1) := by decide +kernel
theorem dL_peek_16 : decode cL_peek 16 = .ok (.ireturn, 1) := by decide +kernel
theorem lL_35 : Cond.methodLink "PackedImageLaw" 35 yX_peek ∈ WA := wa 535 (by decide +kernel) rfl
theorem kL_peek {l : Launch} (hl : l.stackTraces = false) {M : Mm} {x1 : Int} {w : Nat × Int × Mm} (hf : fX_peek x1 M = some w) (hw : w.1 = 0 ∨ w.1 = 3) (hv : w.1 = 0 → rI w.2.1) : CtW l yL_peek (rmn 8 131) TU mvU false (some .int) [.inr 0, .inl x1, .inr 46] M (wrc [3] w.1) (outm M w) 1 6 := by
  obtain ⟨cd, v, M1⟩ := w
  refine ctw_body hl (by decide) jL_peek.1 (Nat.le_of_ble_eq_true rfl) (fun X hnc htab => ?_)
  refine x_aloadn dL_peek_0 rfl ?_
  refine x_iconst dL_peek_1 ?_
  refine x_aloadn dL_peek_2 rfl ?_
  refine x_iloadn dL_peek_3 rfl ?_
  refine y_try X (ct_emb EX (kX_peek hl _ hf)) iX_peek lL_35 tU_0 rfl rfl ⟨Nat.le_of_ble_eq_true rfl, Nat.le_of_ble_eq_true rfl, Nat.le_of_ble_eq_true rfl, Nat.le_of_ble_eq_true rfl⟩ (Nat.le_of_ble_eq_true rfl) dL_peek_4 (fun z => nomatch z) (Or.inl rfl) (Or.inl rfl) (fun z => ?_) (fun z => ?_)
  · have z : cd = 0 := z
    subst z
    refine y_out tU_46 (by decide) (hv rfl) dL_peek_7 dL_peek_8 ?_
    refine x_goto (tgt := 15) dL_peek_9 rfl ?_
    refine x_iconst dL_peek_15 ?_
    exact y_iret rfl (by decide) rfl dL_peek_16
  · rcases hw with h | h
    · exact absurd h z
    · have h : cd = 3 := h
      subst h
      exact ⟨[], mkE (0, 9, 12, 38), [], "java/lang/IndexOutOfBoundsException", 3, 1, htab, (fun _ h => nomatch h), rfl, by decide, wa 534 (by decide +kernel) rfl, ca_3, by decide, Or.inr ⟨3, rfl, dL_peek_12, rfl⟩, x_iconst dL_peek_13 (y_iret rfl (by decide) rfl dL_peek_14)⟩
def yL_poke : MethodName := ⟨"PackedImageLaw", "poke", "(LPackedImage;II)I"⟩
abbrev cL_poke : ByteArray := method_9_code
theorem jL_poke : MT yL_poke cL_poke 4 (some .int) [(0, 6, 9, 38)] 3 := ⟨wa 564 (by decide +kernel) rfl, wa 563 (by decide +kernel) rfl, wa 0 (by decide +kernel) rfl, by decide, rfl⟩
theorem dL_poke_0 : decode cL_poke 0 = .ok (.aload_n 0, 1) := by decide +kernel
theorem dL_poke_1 : decode cL_poke 1 = .ok (.iload_n 1, 1) := by decide +kernel
theorem dL_poke_2 : decode cL_poke 2 = .ok (.iload_n 2, 1) := by decide +kernel
theorem dL_poke_3 : decode cL_poke 3 = .ok (.invokevirtual 40, 3) := by decide +kernel
theorem dL_poke_6 : decode cL_poke 6 = .ok (.goto 6, 3) := by decide +kernel
theorem dL_poke_9 : decode cL_poke 9 = .ok (.astore_n 3, 1) := by decide +kernel
theorem dL_poke_10 : decode cL_poke 10 = .ok (.iconst 1, 1) := by decide +kernel
theorem dL_poke_11 : decode cL_poke 11 = .ok (.ireturn, 1) := by decide +kernel
theorem dL_poke_12 : decode cL_poke 12 = .ok (.iconst 0, 1) := by decide +kernel
theorem dL_poke_13 : decode cL_poke 13 = .ok (.ireturn, 1) := by decide +kernel
theorem lL_40 : Cond.methodLink "PackedImageLaw" 40 yX_poke ∈ WA := wa 565 (by decide +kernel) rfl
theorem kL_poke {l : Launch} (hl : l.stackTraces = false) {M : Mm} {x1 : Int} {x2 : Int} {w : Nat × Int × Mm} (hf : fX_poke x1 x2 M = some w) (hw : w.1 = 0 ∨ w.1 = 3) : CtW l yL_poke (rmn 8 132) TU mvU false (some .int) [.inr 0, .inl x1, .inl x2] M (wrc [3] w.1) (mrg gX w.2.2 M) 1 6 := by
  obtain ⟨cd, v, M1⟩ := w
  refine ctw_body hl (by decide) jL_poke.1 (Nat.le_of_ble_eq_true rfl) (fun X hnc htab => ?_)
  refine x_aloadn dL_poke_0 rfl ?_
  refine x_iloadn dL_poke_1 rfl ?_
  refine x_iloadn dL_poke_2 rfl ?_
  refine y_try X (ct_emb EX (kX_poke hl _ hf)) iX_poke lL_40 tU_0 rfl rfl ⟨Nat.le_of_ble_eq_true rfl, Nat.le_of_ble_eq_true rfl, Nat.le_of_ble_eq_true rfl, Nat.le_of_ble_eq_true rfl⟩ (Nat.le_of_ble_eq_true rfl) dL_poke_3 (fun z => nomatch z) (Or.inl rfl) (Or.inl rfl) (fun z => ?_) (fun z => ?_)
  · have z : cd = 0 := z
    subst z
    refine x_goto (tgt := 12) dL_poke_6 rfl ?_
    refine x_iconst dL_poke_12 ?_
    exact y_iret rfl (by decide) rfl dL_poke_13
  · rcases hw with h | h
    · exact absurd h z
    · have h : cd = 3 := h
      subst h
      exact ⟨[], mkE (0, 6, 9, 38), [], "java/lang/IndexOutOfBoundsException", 3, 1, htab, (fun _ h => nomatch h), rfl, by decide, wa 534 (by decide +kernel) rfl, ca_3, by decide, Or.inr ⟨3, rfl, dL_poke_9, rfl⟩, x_iconst dL_poke_10 (y_iret rfl (by decide) rfl dL_poke_11)⟩
def yL_mount : MethodName := ⟨"PackedImageLaw", "mount", "(LPackedImage;[J)I"⟩
abbrev cL_mount : ByteArray := method_10_code
theorem jL_mount : MT yL_mount cL_mount 3 (some .int) [(0, 8, 11, 15)] 2 := ⟨wa 575 (by decide +kernel) rfl, wa 574 (by decide +kernel) rfl, wa 0 (by decide +kernel) rfl, by decide, rfl⟩
theorem dL_mount_0 : decode cL_mount 0 = .ok (.aload_n 1, 1) := by decide +kernel
theorem dL_mount_1 : decode cL_mount 1 = .ok (.iconst 0, 1) := by decide +kernel
theorem dL_mount_2 : decode cL_mount 2 = .ok (.aload_n 0, 1) := by decide +kernel
theorem dL_mount_3 : decode cL_mount 3 = .ok (.invokevirtual 44, 3) := by decide +kernel
theorem dL_mount_6 : decode cL_mount 6 = .ok (.i2l, 1) := by decide +kernel
theorem dL_mount_7 : decode cL_mount 7 = .ok (.lastore, 1) := by decide +kernel
theorem dL_mount_8 : decode cL_mount 8 = .ok (.goto 6, 3) := by decide +kernel
theorem dL_mount_11 : decode cL_mount 11 = .ok (.astore_n 2, 1) := by decide +kernel
theorem dL_mount_12 : decode cL_mount 12 = .ok (.iconst 1, 1) := by decide +kernel
theorem dL_mount_13 : decode cL_mount 13 = .ok (.ireturn, 1) := by decide +kernel
theorem dL_mount_14 : decode cL_mount 14 = .ok (.iconst 0, 1) := by decide +kernel
theorem dL_mount_15 : decode cL_mount 15 = .ok (.ireturn, 1) := by decide +kernel
theorem lL_44 : Cond.methodLink "PackedImageLaw" 44 yX_mount ∈ WA := wa 576 (by decide +kernel) rfl
theorem kL_mount {l : Launch} (hl : l.stackTraces = false) {M : Mm} {w : Nat × Int × Mm} (hf : fX_mount M = some w) (hw : w.1 = 0 ∨ w.1 = 2) (hv : w.1 = 0 → rI w.2.1) : CtW l yL_mount (rmn 7 109) TU mvU false (some .int) [.inr 0, .inr 46] M (wrc [2] w.1) (outm M w) 1 6 := by
  obtain ⟨cd, v, M1⟩ := w
  refine ctw_body hl (by decide) jL_mount.1 (Nat.le_of_ble_eq_true rfl) (fun X hnc htab => ?_)
  refine x_aloadn dL_mount_0 rfl ?_
  refine x_iconst dL_mount_1 ?_
  refine x_aloadn dL_mount_2 rfl ?_
  refine y_try X (ct_emb EX (kX_mount hl _ hf)) iX_mount lL_44 tU_0 rfl rfl ⟨Nat.le_of_ble_eq_true rfl, Nat.le_of_ble_eq_true rfl, Nat.le_of_ble_eq_true rfl, Nat.le_of_ble_eq_true rfl⟩ (Nat.le_of_ble_eq_true rfl) dL_mount_3 (fun z => nomatch z) (Or.inl rfl) (Or.inl rfl) (fun z => ?_) (fun z => ?_)
  · have z : cd = 0 := z
    subst z
    refine y_out tU_46 (by decide) (hv rfl) dL_mount_6 dL_mount_7 ?_
    refine x_goto (tgt := 14) dL_mount_8 rfl ?_
    refine x_iconst dL_mount_14 ?_
    exact y_iret rfl (by decide) rfl dL_mount_15
  · rcases hw with h | h
    · exact absurd h z
    · have h : cd = 2 := h
      subst h
      exact ⟨[], mkE (0, 8, 11, 15), [], "java/lang/IllegalStateException", 2, 1, htab, (fun _ h => nomatch h), rfl, by decide, wa 249 (by decide +kernel) rfl, ca_2, by decide, Or.inr ⟨2, rfl, dL_mount_11, rfl⟩, x_iconst dL_mount_12 (y_iret rfl (by decide) rfl dL_mount_13)⟩
def yL_stat : MethodName := ⟨"PackedImageLaw", "stat", "(LPackedImage;II[J)I"⟩
abbrev cL_stat : ByteArray := method_11_code
theorem jL_stat : MT yL_stat cL_stat 5 (some .int) [(0, 10, 13, 15), (0, 10, 17, 38), (0, 10, 21, 13)] 4 := ⟨wa 608 (by decide +kernel) rfl, wa 607 (by decide +kernel) rfl, wa 0 (by decide +kernel) rfl, by decide, rfl⟩
theorem dL_stat_0 : decode cL_stat 0 = .ok (.aload_n 3, 1) := by decide +kernel
theorem dL_stat_1 : decode cL_stat 1 = .ok (.iconst 0, 1) := by decide +kernel
theorem dL_stat_2 : decode cL_stat 2 = .ok (.aload_n 0, 1) := by decide +kernel
theorem dL_stat_3 : decode cL_stat 3 = .ok (.iload_n 1, 1) := by decide +kernel
theorem dL_stat_4 : decode cL_stat 4 = .ok (.iload_n 2, 1) := by decide +kernel
theorem dL_stat_5 : decode cL_stat 5 = .ok (.invokevirtual 48, 3) := by decide +kernel
theorem dL_stat_8 : decode cL_stat 8 = .ok (.i2l, 1) := by decide +kernel
theorem dL_stat_9 : decode cL_stat 9 = .ok (.lastore, 1) := by decide +kernel
theorem dL_stat_10 : decode cL_stat 10 = .ok (.goto 15, 3) := by decide +kernel
theorem dL_stat_13 : decode cL_stat 13 = .ok (.astore 4, 2) := by decide +kernel
theorem dL_stat_15 : decode cL_stat 15 = .ok (.iconst 1, 1) := by decide +kernel
theorem dL_stat_16 : decode cL_stat 16 = .ok (.ireturn, 1) := by decide +kernel
theorem dL_stat_17 : decode cL_stat 17 = .ok (.astore 4, 2) := by decide +kernel
theorem dL_stat_19 : decode cL_stat 19 = .ok (.iconst 2, 1) := by decide +kernel
theorem dL_stat_20 : decode cL_stat 20 = .ok (.ireturn, 1) := by decide +kernel
theorem dL_stat_21 : decode cL_stat 21 = .ok (.astore 4, 2) := by decide +kernel
theorem dL_stat_23 : decode cL_stat 23 = .ok (.iconst 3, 1) := by decide +kernel
theorem dL_stat_24 : decode cL_stat 24 = .ok (.ireturn, 1) := by decide +kernel
theorem dL_stat_25 : decode cL_stat 25 = .ok (.iconst 0, 1) := by decide +kernel
theorem dL_stat_26 : decode cL_stat 26 = .ok (.ireturn, 1) := by decide +kernel
theorem lL_48 : Cond.methodLink "PackedImageLaw" 48 yX_stat ∈ WA := wa 609 (by decide +kernel) rfl
theorem kL_stat {l : Launch} (hl : l.stackTraces = false) {M : Mm} {x1 : Int} {x2 : Int} {w : Nat × Int × Mm} (hf : fX_stat x1 x2 M = some w) (hw : w.1 = 0 ∨ w.1 = 2 ∨ w.1 = 3 ∨ w.1 = 1) (hv : w.1 = 0 → rI w.2.1) : CtW l yL_stat (rmn 9 152) TU mvU false (some .int) [.inr 0, .inl x1, .inl x2, .inr 46] M (wrc [2, 3, 1] w.1) (outm M w) 1 6 := by
  obtain ⟨cd, v, M1⟩ := w
  refine ctw_body hl (by decide) jL_stat.1 (Nat.le_of_ble_eq_true rfl) (fun X hnc htab => ?_)
  refine x_aloadn dL_stat_0 rfl ?_
  refine x_iconst dL_stat_1 ?_
  refine x_aloadn dL_stat_2 rfl ?_
  refine x_iloadn dL_stat_3 rfl ?_
  refine x_iloadn dL_stat_4 rfl ?_
  refine y_try X (ct_emb EX (kX_stat hl _ hf)) iX_stat lL_48 tU_0 rfl rfl ⟨Nat.le_of_ble_eq_true rfl, Nat.le_of_ble_eq_true rfl, Nat.le_of_ble_eq_true rfl, Nat.le_of_ble_eq_true rfl⟩ (Nat.le_of_ble_eq_true rfl) dL_stat_5 (fun z => nomatch z) (Or.inl rfl) (Or.inl rfl) (fun z => ?_) (fun z => ?_)
  · have z : cd = 0 := z
    subst z
    refine y_out tU_46 (by decide) (hv rfl) dL_stat_8 dL_stat_9 ?_
    refine x_goto (tgt := 25) dL_stat_10 rfl ?_
    refine x_iconst dL_stat_25 ?_
    exact y_iret rfl (by decide) rfl dL_stat_26
  · rcases hw with h | h | h | h
    · exact absurd h z
    · have h : cd = 2 := h
      subst h
      exact ⟨[], mkE (0, 10, 13, 15), [mkE (0, 10, 17, 38), mkE (0, 10, 21, 13)], "java/lang/IllegalStateException", 4, 2, htab, (fun _ h => nomatch h), rfl, by decide, wa 249 (by decide +kernel) rfl, ca_2, by decide, Or.inl ⟨dL_stat_13, rfl⟩, x_iconst dL_stat_15 (y_iret rfl (by decide) rfl dL_stat_16)⟩
    · have h : cd = 3 := h
      subst h
      exact ⟨[mkE (0, 10, 13, 15)], mkE (0, 10, 17, 38), [mkE (0, 10, 21, 13)], "java/lang/IndexOutOfBoundsException", 4, 2, htab, List.forall_mem_cons.mpr ⟨Or.inr ⟨by decide, "java/lang/IllegalStateException", wa 249 (by decide +kernel) rfl, hnc _ (List.mem_of_getElem? (i := 1) rfl)⟩, (fun _ h => nomatch h)⟩, rfl, by decide, wa 534 (by decide +kernel) rfl, ca_3, by decide, Or.inl ⟨dL_stat_17, rfl⟩, x_iconst dL_stat_19 (y_iret rfl (by decide) rfl dL_stat_20)⟩
    · have h : cd = 1 := h
      subst h
      exact ⟨[mkE (0, 10, 13, 15), mkE (0, 10, 17, 38)], mkE (0, 10, 21, 13), [], "java/lang/IllegalArgumentException", 4, 2, htab, List.forall_mem_cons.mpr ⟨Or.inr ⟨by decide, "java/lang/IllegalStateException", wa 249 (by decide +kernel) rfl, hnc _ (List.mem_of_getElem? (i := 2) rfl)⟩, List.forall_mem_cons.mpr ⟨Or.inr ⟨by decide, "java/lang/IndexOutOfBoundsException", wa 534 (by decide +kernel) rfl, hnc _ (List.mem_of_getElem? (i := 3) rfl)⟩, (fun _ h => nomatch h)⟩⟩, rfl, by decide, wa 248 (by decide +kernel) rfl, ca_1, by decide, Or.inl ⟨dL_stat_21, rfl⟩, x_iconst dL_stat_23 (y_iret rfl (by decide) rfl dL_stat_24)⟩
def yL_read : MethodName := ⟨"PackedImageLaw", "read", "(LPackedImage;II[J)I"⟩
abbrev cL_read : ByteArray := method_12_code
theorem jL_read : MT yL_read cL_read 5 (some .int) [(0, 10, 13, 15), (0, 10, 17, 38)] 4 := ⟨wa 676 (by decide +kernel) rfl, wa 675 (by decide +kernel) rfl, wa 0 (by decide +kernel) rfl, by decide, rfl⟩
theorem dL_read_0 : decode cL_read 0 = .ok (.aload_n 3, 1) := by decide +kernel
theorem dL_read_1 : decode cL_read 1 = .ok (.iconst 0, 1) := by decide +kernel
theorem dL_read_2 : decode cL_read 2 = .ok (.aload_n 0, 1) := by decide +kernel
theorem dL_read_3 : decode cL_read 3 = .ok (.iload_n 1, 1) := by decide +kernel
theorem dL_read_4 : decode cL_read 4 = .ok (.iload_n 2, 1) := by decide +kernel
theorem dL_read_5 : decode cL_read 5 = .ok (.invokevirtual 51, 3) := by decide +kernel
theorem dL_read_8 : decode cL_read 8 = .ok (.i2l, 1) := by decide +kernel
theorem dL_read_9 : decode cL_read 9 = .ok (.lastore, 1) := by decide +kernel
theorem dL_read_10 : decode cL_read 10 = .ok (.goto 11, 3) := by decide +kernel
theorem dL_read_13 : decode cL_read 13 = .ok (.astore 4, 2) := by decide +kernel
theorem dL_read_15 : decode cL_read 15 = .ok (.iconst 1, 1) := by decide +kernel
theorem dL_read_16 : decode cL_read 16 = .ok (.ireturn, 1) := by decide +kernel
theorem dL_read_17 : decode cL_read 17 = .ok (.astore 4, 2) := by decide +kernel
theorem dL_read_19 : decode cL_read 19 = .ok (.iconst 2, 1) := by decide +kernel
theorem dL_read_20 : decode cL_read 20 = .ok (.ireturn, 1) := by decide +kernel
theorem dL_read_21 : decode cL_read 21 = .ok (.iconst 0, 1) := by decide +kernel
theorem dL_read_22 : decode cL_read 22 = .ok (.ireturn, 1) := by decide +kernel
theorem lL_51 : Cond.methodLink "PackedImageLaw" 51 yX_read ∈ WA := wa 677 (by decide +kernel) rfl
theorem kL_read {l : Launch} (hl : l.stackTraces = false) {M : Mm} {x1 : Int} {x2 : Int} {w : Nat × Int × Mm} (hf : fX_read x1 x2 M = some w) (hw : w.1 = 0 ∨ w.1 = 2 ∨ w.1 = 3) (hv : w.1 = 0 → rI w.2.1) : CtW l yL_read (rmn 9 156) TU mvU true (some .int) [.inr 0, .inl x1, .inl x2, .inr 46] M (wrc [2, 3] w.1) (outm M w) 1 6 := by
  obtain ⟨cd, v, M1⟩ := w
  refine ctw_body hl (by decide) jL_read.1 (Nat.le_of_ble_eq_true rfl) (fun X hnc htab => ?_)
  refine x_aloadn dL_read_0 rfl ?_
  refine x_iconst dL_read_1 ?_
  refine x_aloadn dL_read_2 rfl ?_
  refine x_iloadn dL_read_3 rfl ?_
  refine x_iloadn dL_read_4 rfl ?_
  refine y_try X (ct_emb EX (kX_read hl _ hf)) iX_read lL_51 tU_0 rfl rfl ⟨Nat.le_of_ble_eq_true rfl, Nat.le_of_ble_eq_true rfl, Nat.le_of_ble_eq_true rfl, Nat.le_of_ble_eq_true rfl⟩ (Nat.le_of_ble_eq_true rfl) dL_read_5 (fun _ => rfl) (Or.inr rfl) (Or.inr rfl) (fun z => ?_) (fun z => ?_)
  · have z : cd = 0 := z
    subst z
    refine y_out tU_46 (by decide) (hv rfl) dL_read_8 dL_read_9 ?_
    refine x_goto (tgt := 21) dL_read_10 rfl ?_
    refine x_iconst dL_read_21 ?_
    exact y_iret rfl (by decide) rfl dL_read_22
  · rcases hw with h | h | h
    · exact absurd h z
    · have h : cd = 2 := h
      subst h
      exact ⟨[], mkE (0, 10, 13, 15), [mkE (0, 10, 17, 38)], "java/lang/IllegalStateException", 4, 2, htab, (fun _ h => nomatch h), rfl, by decide, wa 249 (by decide +kernel) rfl, ca_2, by decide, Or.inl ⟨dL_read_13, rfl⟩, x_iconst dL_read_15 (y_iret rfl (by decide) rfl dL_read_16)⟩
    · have h : cd = 3 := h
      subst h
      exact ⟨[mkE (0, 10, 13, 15)], mkE (0, 10, 17, 38), [], "java/lang/IndexOutOfBoundsException", 4, 2, htab, List.forall_mem_cons.mpr ⟨Or.inr ⟨by decide, "java/lang/IllegalStateException", wa 249 (by decide +kernel) rfl, hnc _ (List.mem_of_getElem? (i := 1) rfl)⟩, (fun _ h => nomatch h)⟩, rfl, by decide, wa 534 (by decide +kernel) rfl, ca_3, by decide, Or.inl ⟨dL_read_17, rfl⟩, x_iconst dL_read_19 (y_iret rfl (by decide) rfl dL_read_20)⟩
def yL_find : MethodName := ⟨"PackedImageLaw", "find", "(LPackedImage;IC[J)I"⟩
abbrev cL_find : ByteArray := method_13_code
theorem jL_find : MT yL_find cL_find 5 (some .int) [(0, 10, 13, 15), (0, 10, 17, 38), (0, 10, 21, 13)] 4 := ⟨wa 734 (by decide +kernel) rfl, wa 733 (by decide +kernel) rfl, wa 0 (by decide +kernel) rfl, by decide, rfl⟩
theorem dL_find_0 : decode cL_find 0 = .ok (.aload_n 3, 1) := by decide +kernel
theorem dL_find_1 : decode cL_find 1 = .ok (.iconst 0, 1) := by decide +kernel
theorem dL_find_2 : decode cL_find 2 = .ok (.aload_n 0, 1) := by decide +kernel
theorem dL_find_3 : decode cL_find 3 = .ok (.iload_n 1, 1) := by decide +kernel
theorem dL_find_4 : decode cL_find 4 = .ok (.iload_n 2, 1) := by decide +kernel
theorem dL_find_5 : decode cL_find 5 = .ok (.invokevirtual 54, 3) := by decide +kernel
theorem dL_find_8 : decode cL_find 8 = .ok (.i2l, 1) := by decide +kernel
theorem dL_find_9 : decode cL_find 9 = .ok (.lastore, 1) := by decide +kernel
theorem dL_find_10 : decode cL_find 10 = .ok (.goto 15, 3) := by decide +kernel
theorem dL_find_13 : decode cL_find 13 = .ok (.astore 4, 2) := by decide +kernel
theorem dL_find_15 : decode cL_find 15 = .ok (.iconst 1, 1) := by decide +kernel
theorem dL_find_16 : decode cL_find 16 = .ok (.ireturn, 1) := by decide +kernel
theorem dL_find_17 : decode cL_find 17 = .ok (.astore 4, 2) := by decide +kernel
theorem dL_find_19 : decode cL_find 19 = .ok (.iconst 2, 1) := by decide +kernel
theorem dL_find_20 : decode cL_find 20 = .ok (.ireturn, 1) := by decide +kernel
theorem dL_find_21 : decode cL_find 21 = .ok (.astore 4, 2) := by decide +kernel
theorem dL_find_23 : decode cL_find 23 = .ok (.iconst 3, 1) := by decide +kernel
theorem dL_find_24 : decode cL_find 24 = .ok (.ireturn, 1) := by decide +kernel
theorem dL_find_25 : decode cL_find 25 = .ok (.iconst 0, 1) := by decide +kernel
theorem dL_find_26 : decode cL_find 26 = .ok (.ireturn, 1) := by decide +kernel
theorem lL_54 : Cond.methodLink "PackedImageLaw" 54 yX_find ∈ WA := wa 735 (by decide +kernel) rfl
theorem kL_find {l : Launch} (hl : l.stackTraces = false) {M : Mm} {x1 : Int} {x2 : Int} {w : Nat × Int × Mm} (hf : fX_find x1 x2 M = some w) (hw : w.1 = 0 ∨ w.1 = 2 ∨ w.1 = 3 ∨ w.1 = 1) (hv : w.1 = 0 → rI w.2.1) : CtW l yL_find (rmn 9 155) TU mvU false (some .int) [.inr 0, .inl x1, .inl x2, .inr 46] M (wrc [2, 3, 1] w.1) (outm M w) 1 6 := by
  obtain ⟨cd, v, M1⟩ := w
  refine ctw_body hl (by decide) jL_find.1 (Nat.le_of_ble_eq_true rfl) (fun X hnc htab => ?_)
  refine x_aloadn dL_find_0 rfl ?_
  refine x_iconst dL_find_1 ?_
  refine x_aloadn dL_find_2 rfl ?_
  refine x_iloadn dL_find_3 rfl ?_
  refine x_iloadn dL_find_4 rfl ?_
  refine y_try X (ct_emb EX (kX_find hl _ hf)) iX_find lL_54 tU_0 rfl rfl ⟨Nat.le_of_ble_eq_true rfl, Nat.le_of_ble_eq_true rfl, Nat.le_of_ble_eq_true rfl, Nat.le_of_ble_eq_true rfl⟩ (Nat.le_of_ble_eq_true rfl) dL_find_5 (fun z => nomatch z) (Or.inl rfl) (Or.inl rfl) (fun z => ?_) (fun z => ?_)
  · have z : cd = 0 := z
    subst z
    refine y_out tU_46 (by decide) (hv rfl) dL_find_8 dL_find_9 ?_
    refine x_goto (tgt := 25) dL_find_10 rfl ?_
    refine x_iconst dL_find_25 ?_
    exact y_iret rfl (by decide) rfl dL_find_26
  · rcases hw with h | h | h | h
    · exact absurd h z
    · have h : cd = 2 := h
      subst h
      exact ⟨[], mkE (0, 10, 13, 15), [mkE (0, 10, 17, 38), mkE (0, 10, 21, 13)], "java/lang/IllegalStateException", 4, 2, htab, (fun _ h => nomatch h), rfl, by decide, wa 249 (by decide +kernel) rfl, ca_2, by decide, Or.inl ⟨dL_find_13, rfl⟩, x_iconst dL_find_15 (y_iret rfl (by decide) rfl dL_find_16)⟩
    · have h : cd = 3 := h
      subst h
      exact ⟨[mkE (0, 10, 13, 15)], mkE (0, 10, 17, 38), [mkE (0, 10, 21, 13)], "java/lang/IndexOutOfBoundsException", 4, 2, htab, List.forall_mem_cons.mpr ⟨Or.inr ⟨by decide, "java/lang/IllegalStateException", wa 249 (by decide +kernel) rfl, hnc _ (List.mem_of_getElem? (i := 1) rfl)⟩, (fun _ h => nomatch h)⟩, rfl, by decide, wa 534 (by decide +kernel) rfl, ca_3, by decide, Or.inl ⟨dL_find_17, rfl⟩, x_iconst dL_find_19 (y_iret rfl (by decide) rfl dL_find_20)⟩
    · have h : cd = 1 := h
      subst h
      exact ⟨[mkE (0, 10, 13, 15), mkE (0, 10, 17, 38)], mkE (0, 10, 21, 13), [], "java/lang/IllegalArgumentException", 4, 2, htab, List.forall_mem_cons.mpr ⟨Or.inr ⟨by decide, "java/lang/IllegalStateException", wa 249 (by decide +kernel) rfl, hnc _ (List.mem_of_getElem? (i := 2) rfl)⟩, List.forall_mem_cons.mpr ⟨Or.inr ⟨by decide, "java/lang/IndexOutOfBoundsException", wa 534 (by decide +kernel) rfl, hnc _ (List.mem_of_getElem? (i := 3) rfl)⟩, (fun _ h => nomatch h)⟩⟩, rfl, by decide, wa 248 (by decide +kernel) rfl, ca_1, by decide, Or.inl ⟨dL_find_21, rfl⟩, x_iconst dL_find_23 (y_iret rfl (by decide) rfl dL_find_24)⟩
def yL_resolve : MethodName := ⟨"PackedImageLaw", "resolve", "(LPackedImage;I[J)I"⟩
abbrev cL_resolve : ByteArray := method_14_code
theorem jL_resolve : MT yL_resolve cL_resolve 4 (some .int) [(0, 9, 12, 15)] 3 := ⟨wa 746 (by decide +kernel) rfl, wa 745 (by decide +kernel) rfl, wa 0 (by decide +kernel) rfl, by decide, rfl⟩
theorem dL_resolve_0 : decode cL_resolve 0 = .ok (.aload_n 2, 1) := by decide +kernel
theorem dL_resolve_1 : decode cL_resolve 1 = .ok (.iconst 0, 1) := by decide +kernel
theorem dL_resolve_2 : decode cL_resolve 2 = .ok (.aload_n 0, 1) := by decide +kernel
theorem dL_resolve_3 : decode cL_resolve 3 = .ok (.iload_n 1, 1) := by decide +kernel
theorem dL_resolve_4 : decode cL_resolve 4 = .ok (.invokevirtual 58, 3) := by decide +kernel
theorem dL_resolve_7 : decode cL_resolve 7 = .ok (.i2l, 1) := by decide +kernel
theorem dL_resolve_8 : decode cL_resolve 8 = .ok (.lastore, 1) := by decide +kernel
theorem dL_resolve_9 : decode cL_resolve 9 = .ok (.goto 6, 3) := by decide +kernel
theorem dL_resolve_12 : decode cL_resolve 12 = .ok (.astore_n 3, 1) := by decide +kernel
theorem dL_resolve_13 : decode cL_resolve 13 = .ok (.iconst 1, 1) := by decide +kernel
theorem dL_resolve_14 : decode cL_resolve 14 = .ok (.ireturn, 1) := by decide +kernel
theorem dL_resolve_15 : decode cL_resolve 15 = .ok (.iconst 0, 1) := by decide +kernel
theorem dL_resolve_16 : decode cL_resolve 16 = .ok (.ireturn, 1) := by decide +kernel
theorem lL_58 : Cond.methodLink "PackedImageLaw" 58 yX_resolve ∈ WA := wa 747 (by decide +kernel) rfl
theorem kL_resolve {l : Launch} (hl : l.stackTraces = false) {M : Mm} {x1 : Int} {w : Nat × Int × Mm} (hf : fX_resolve x1 M = some w) (hw : w.1 = 0 ∨ w.1 = 2) (hv : w.1 = 0 → rI w.2.1) : CtW l yL_resolve (rmn 8 157) TU mvU false (some .int) [.inr 0, .inl x1, .inr 46] M (wrc [2] w.1) (outm M w) 1 6 := by
  obtain ⟨cd, v, M1⟩ := w
  refine ctw_body hl (by decide) jL_resolve.1 (Nat.le_of_ble_eq_true rfl) (fun X hnc htab => ?_)
  refine x_aloadn dL_resolve_0 rfl ?_
  refine x_iconst dL_resolve_1 ?_
  refine x_aloadn dL_resolve_2 rfl ?_
  refine x_iloadn dL_resolve_3 rfl ?_
  refine y_try X (ct_emb EX (kX_resolve hl _ hf)) iX_resolve lL_58 tU_0 rfl rfl ⟨Nat.le_of_ble_eq_true rfl, Nat.le_of_ble_eq_true rfl, Nat.le_of_ble_eq_true rfl, Nat.le_of_ble_eq_true rfl⟩ (Nat.le_of_ble_eq_true rfl) dL_resolve_4 (fun z => nomatch z) (Or.inl rfl) (Or.inl rfl) (fun z => ?_) (fun z => ?_)
  · have z : cd = 0 := z
    subst z
    refine y_out tU_46 (by decide) (hv rfl) dL_resolve_7 dL_resolve_8 ?_
    refine x_goto (tgt := 15) dL_resolve_9 rfl ?_
    refine x_iconst dL_resolve_15 ?_
    exact y_iret rfl (by decide) rfl dL_resolve_16
  · rcases hw with h | h
    · exact absurd h z
    · have h : cd = 2 := h
      subst h
      exact ⟨[], mkE (0, 9, 12, 15), [], "java/lang/IllegalStateException", 3, 1, htab, (fun _ h => nomatch h), rfl, by decide, wa 249 (by decide +kernel) rfl, ca_2, by decide, Or.inr ⟨3, rfl, dL_resolve_12, rfl⟩, x_iconst dL_resolve_13 (y_iret rfl (by decide) rfl dL_resolve_14)⟩
def yL_check : MethodName := ⟨"PackedImageLaw", "check", "(LPackedImage;[J)I"⟩
abbrev cL_check : ByteArray := method_15_code
theorem jL_check : MT yL_check cL_check 3 (some .int) [(0, 8, 11, 15)] 2 := ⟨wa 772 (by decide +kernel) rfl, wa 771 (by decide +kernel) rfl, wa 0 (by decide +kernel) rfl, by decide, rfl⟩
theorem dL_check_0 : decode cL_check 0 = .ok (.aload_n 1, 1) := by decide +kernel
theorem dL_check_1 : decode cL_check 1 = .ok (.iconst 0, 1) := by decide +kernel
theorem dL_check_2 : decode cL_check 2 = .ok (.aload_n 0, 1) := by decide +kernel
theorem dL_check_3 : decode cL_check 3 = .ok (.invokevirtual 61, 3) := by decide +kernel
theorem dL_check_6 : decode cL_check 6 = .ok (.i2l, 1) := by decide +kernel
theorem dL_check_7 : decode cL_check 7 = .ok (.lastore, 1) := by decide +kernel
theorem dL_check_8 : decode cL_check 8 = .ok (.goto 6, 3) := by decide +kernel
theorem dL_check_11 : decode cL_check 11 = .ok (.astore_n 2, 1) := by decide +kernel
theorem dL_check_12 : decode cL_check 12 = .ok (.iconst 1, 1) := by decide +kernel
theorem dL_check_13 : decode cL_check 13 = .ok (.ireturn, 1) := by decide +kernel
theorem dL_check_14 : decode cL_check 14 = .ok (.iconst 0, 1) := by decide +kernel
theorem dL_check_15 : decode cL_check 15 = .ok (.ireturn, 1) := by decide +kernel
theorem lL_61 : Cond.methodLink "PackedImageLaw" 61 yX_check ∈ WA := wa 773 (by decide +kernel) rfl
theorem kL_check {l : Launch} (hl : l.stackTraces = false) {M : Mm} {w : Nat × Int × Mm} (hf : fX_check M = some w) (hw : w.1 = 0 ∨ w.1 = 2) (hv : w.1 = 0 → rI w.2.1) : CtW l yL_check (rmn 8 163) TU mvU false (some .int) [.inr 0, .inr 46] M (wrc [2] w.1) (outm M w) 1 6 := by
  obtain ⟨cd, v, M1⟩ := w
  refine ctw_body hl (by decide) jL_check.1 (Nat.le_of_ble_eq_true rfl) (fun X hnc htab => ?_)
  refine x_aloadn dL_check_0 rfl ?_
  refine x_iconst dL_check_1 ?_
  refine x_aloadn dL_check_2 rfl ?_
  refine y_try X (ct_emb EX (kX_check hl _ hf)) iX_check lL_61 tU_0 rfl rfl ⟨Nat.le_of_ble_eq_true rfl, Nat.le_of_ble_eq_true rfl, Nat.le_of_ble_eq_true rfl, Nat.le_of_ble_eq_true rfl⟩ (Nat.le_of_ble_eq_true rfl) dL_check_3 (fun z => nomatch z) (Or.inl rfl) (Or.inl rfl) (fun z => ?_) (fun z => ?_)
  · have z : cd = 0 := z
    subst z
    refine y_out tU_46 (by decide) (hv rfl) dL_check_6 dL_check_7 ?_
    refine x_goto (tgt := 14) dL_check_8 rfl ?_
    refine x_iconst dL_check_14 ?_
    exact y_iret rfl (by decide) rfl dL_check_15
  · rcases hw with h | h
    · exact absurd h z
    · have h : cd = 2 := h
      subst h
      exact ⟨[], mkE (0, 8, 11, 15), [], "java/lang/IllegalStateException", 2, 1, htab, (fun _ h => nomatch h), rfl, by decide, wa 249 (by decide +kernel) rfl, ca_2, by decide, Or.inr ⟨2, rfl, dL_check_11, rfl⟩, x_iconst dL_check_12 (y_iret rfl (by decide) rfl dL_check_13)⟩
