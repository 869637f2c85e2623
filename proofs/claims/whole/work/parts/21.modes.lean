theorem m32 : Cond.initialized yX1_rootOf.cls ∈ gG := gG_mk (i := 32) (by decide +kernel) (by decide +kernel)
theorem m256 : Cond.static yX2_union ∈ gG := gG_mk (i := 256) (by decide +kernel) (by decide +kernel)
theorem m257 : Cond.code yX2_union cX2_union 2 (some .int) ∈ gG := gG_mk (i := 257) (by decide +kernel) (by decide +kernel)
theorem m319 : Cond.static yX2_bandOf ∈ gG := gG_mk (i := 319) (by decide +kernel) (by decide +kernel)
theorem m320 : Cond.code yX2_bandOf cX2_bandOf 2 (some .int) ∈ gG := gG_mk (i := 320) (by decide +kernel) (by decide +kernel)
theorem m322 : Cond.static yX2_within ∈ gG := gG_mk (i := 322) (by decide +kernel) (by decide +kernel)
theorem m323 : Cond.code yX2_within cX2_within 1 (some .int) ∈ gG := gG_mk (i := 323) (by decide +kernel) (by decide +kernel)
theorem m327 : Cond.static yX2_packed ∈ gG := gG_mk (i := 327) (by decide +kernel) (by decide +kernel)
theorem m328 : Cond.code yX2_packed cX2_packed 3 (some .int) ∈ gG := gG_mk (i := 328) (by decide +kernel) (by decide +kernel)
theorem m340 : Cond.methodLink RX1 40 yX1_satOf ∈ gG := gG_mk (i := 340) (by decide +kernel) (by decide +kernel)
theorem m341 : Cond.static yX1_satOf ∈ gG := gG_mk (i := 341) (by decide +kernel) (by decide +kernel)
theorem m342 : Cond.code yX1_satOf cX1_satOf 4 (some .int) ∈ gG := gG_mk (i := 342) (by decide +kernel) (by decide +kernel)
theorem m343 : Cond.methodLink RX1 53 yX2_bandOf ∈ gG := gG_mk (i := 343) (by decide +kernel) (by decide +kernel)
theorem m344 : Cond.methodLink RX1 69 yX1_mostOf ∈ gG := gG_mk (i := 344) (by decide +kernel) (by decide +kernel)
theorem m345 : Cond.static yX1_mostOf ∈ gG := gG_mk (i := 345) (by decide +kernel) (by decide +kernel)
theorem m346 : Cond.code yX1_mostOf cX1_mostOf 3 (some .int) ∈ gG := gG_mk (i := 346) (by decide +kernel) (by decide +kernel)
theorem m347 : Cond.methodLink RX1 28 Lib.Math.max.name ∈ gG := gG_mk (i := 347) (by decide +kernel) (by decide +kernel)
theorem m348 : Cond.methodLink RX1 72 yX1_leastOf ∈ gG := gG_mk (i := 348) (by decide +kernel) (by decide +kernel)
theorem m349 : Cond.static yX1_leastOf ∈ gG := gG_mk (i := 349) (by decide +kernel) (by decide +kernel)
theorem m350 : Cond.code yX1_leastOf cX1_leastOf 3 (some .int) ∈ gG := gG_mk (i := 350) (by decide +kernel) (by decide +kernel)
theorem m351 : Cond.methodLink RX1 23 Lib.Math.min.name ∈ gG := gG_mk (i := 351) (by decide +kernel) (by decide +kernel)
theorem m352 : Cond.methodLink RX1 44 yX1_withSat ∈ gG := gG_mk (i := 352) (by decide +kernel) (by decide +kernel)
theorem m353 : Cond.static yX1_withSat ∈ gG := gG_mk (i := 353) (by decide +kernel) (by decide +kernel)
theorem m354 : Cond.code yX1_withSat cX1_withSat 7 (some .int) ∈ gG := gG_mk (i := 354) (by decide +kernel) (by decide +kernel)
theorem m355 : Cond.methodLink RX1 60 yX2_packed ∈ gG := gG_mk (i := 355) (by decide +kernel) (by decide +kernel)
theorem m356 : Cond.methodLink RX1 47 yX1_lumOf ∈ gG := gG_mk (i := 356) (by decide +kernel) (by decide +kernel)
theorem m357 : Cond.static yX1_lumOf ∈ gG := gG_mk (i := 357) (by decide +kernel) (by decide +kernel)
theorem m358 : Cond.code yX1_lumOf cX1_lumOf 1 (some .int) ∈ gG := gG_mk (i := 358) (by decide +kernel) (by decide +kernel)
theorem m359 : Cond.methodLink RX1 66 yX2_lum ∈ gG := gG_mk (i := 359) (by decide +kernel) (by decide +kernel)
theorem m360 : Cond.static yX2_lum ∈ gG := gG_mk (i := 360) (by decide +kernel) (by decide +kernel)
theorem m361 : Cond.code yX2_lum cX2_lum 3 (some .int) ∈ gG := gG_mk (i := 361) (by decide +kernel) (by decide +kernel)
theorem m365 : Cond.methodLink RX1 50 yX1_withLum ∈ gG := gG_mk (i := 365) (by decide +kernel) (by decide +kernel)
theorem m366 : Cond.static yX1_withLum ∈ gG := gG_mk (i := 366) (by decide +kernel) (by decide +kernel)
theorem m367 : Cond.code yX1_withLum cX1_withLum 9 (some .int) ∈ gG := gG_mk (i := 367) (by decide +kernel) (by decide +kernel)
theorem m368 : Cond.methodLink RX1 75 yX1_drawnIn ∈ gG := gG_mk (i := 368) (by decide +kernel) (by decide +kernel)
theorem m369 : Cond.static yX1_drawnIn ∈ gG := gG_mk (i := 369) (by decide +kernel) (by decide +kernel)
theorem m370 : Cond.code yX1_drawnIn cX1_drawnIn 5 (some .int) ∈ gG := gG_mk (i := 370) (by decide +kernel) (by decide +kernel)
theorem m371 : Cond.methodLink RX1 79 yJ9_floorDiv_7cf53 ∈ gG := gG_mk (i := 371) (by decide +kernel) (by decide +kernel)
theorem m372 : Cond.methodLink RX1 82 yX2_within ∈ gG := gG_mk (i := 372) (by decide +kernel) (by decide +kernel)
theorem m373 : Cond.methodLink RX1 56 yX1_ofBytes ∈ gG := gG_mk (i := 373) (by decide +kernel) (by decide +kernel)
theorem m374 : Cond.static yX1_ofBytes ∈ gG := gG_mk (i := 374) (by decide +kernel) (by decide +kernel)
theorem m375 : Cond.code yX1_ofBytes cX1_ofBytes 3 (some .int) ∈ gG := gG_mk (i := 375) (by decide +kernel) (by decide +kernel)
theorem m376 : Cond.methodLink RX1 9 yX2_mul ∈ gG := gG_mk (i := 376) (by decide +kernel) (by decide +kernel)
theorem m377 : Cond.methodLink RX1 15 yX2_union ∈ gG := gG_mk (i := 377) (by decide +kernel) (by decide +kernel)
theorem m378 : Cond.methodLink RX1 18 yX1_hardLight ∈ gG := gG_mk (i := 378) (by decide +kernel) (by decide +kernel)
theorem m379 : Cond.static yX1_hardLight ∈ gG := gG_mk (i := 379) (by decide +kernel) (by decide +kernel)
theorem m380 : Cond.code yX1_hardLight cX1_hardLight 2 (some .int) ∈ gG := gG_mk (i := 380) (by decide +kernel) (by decide +kernel)
theorem m381 : Cond.methodLink RX1 31 yX1_dodge ∈ gG := gG_mk (i := 381) (by decide +kernel) (by decide +kernel)
theorem m382 : Cond.static yX1_dodge ∈ gG := gG_mk (i := 382) (by decide +kernel) (by decide +kernel)
theorem m383 : Cond.code yX1_dodge cX1_dodge 3 (some .int) ∈ gG := gG_mk (i := 383) (by decide +kernel) (by decide +kernel)
theorem m384 : Cond.methodLink RX1 34 yX1_burn ∈ gG := gG_mk (i := 384) (by decide +kernel) (by decide +kernel)
theorem m385 : Cond.static yX1_burn ∈ gG := gG_mk (i := 385) (by decide +kernel) (by decide +kernel)
theorem m386 : Cond.code yX1_burn cX1_burn 2 (some .int) ∈ gG := gG_mk (i := 386) (by decide +kernel) (by decide +kernel)
theorem m387 : Cond.methodLink RX1 37 yX1_softLight ∈ gG := gG_mk (i := 387) (by decide +kernel) (by decide +kernel)
theorem m388 : Cond.static yX1_softLight ∈ gG := gG_mk (i := 388) (by decide +kernel) (by decide +kernel)
theorem m389 : Cond.code yX1_softLight cX1_softLight 2 (some .int) ∈ gG := gG_mk (i := 389) (by decide +kernel) (by decide +kernel)
theorem m390 : Cond.methodLink RX1 63 yX1_rootOf ∈ gG := gG_mk (i := 390) (by decide +kernel) (by decide +kernel)
theorem m391 : Cond.static yX1_rootOf ∈ gG := gG_mk (i := 391) (by decide +kernel) (by decide +kernel)
theorem m392 : Cond.code yX1_rootOf cX1_rootOf 4 (some .int) ∈ gG := gG_mk (i := 392) (by decide +kernel) (by decide +kernel)
abbrev wX1_dodge : List Cond := Cond.code yX1_dodge cX1_dodge 3 (some .int) :: gG
def wp_X1_dodge (p0 : Int32) (p1 : Int32) (P : Int32 → Prop) : Prop :=
  ((¬ p0 = 0 → ∀ v1 : Int32, v1 = (255 - p1) → ((v1 ≤ p0 → P 255) ∧
  (¬ v1 ≤ p0 → ((0 < v1 → (¬ v1 = 0 ∧ P (((255 * p0) + (v1 / 2)) / v1))) ∧
  (¬ 0 < v1 → P 255))))) ∧
  (p0 = 0 → P 0))
abbrev rm_X1_dodge : Room := { frames := 0, cells := 0, slots := 0, locals := 0 }
set_option maxHeartbeats 4000000 in
set_option maxRecDepth 100000 in
theorem c_X1_dodge (l : Launch) (p0 : Int32) (p1 : Int32) (P : Int32 → Prop) (hw : wp_X1_dodge p0 p1 P) : Met l yX1_dodge wX1_dodge rm_X1_dodge (xP0 [.int p0, .int p1]) (vp_Si P) 0 0 (fun _ => False) := by
  refine Met.ofW (cc := cX1_dodge) (maxL := 3) (ret := (some .int)) (by decide) rfl ?_
  intro p e s m args below meth c s₁ B hml hv
  obtain ⟨hargs, -⟩ := hv
  have hx := B.exec
  have hb := B.bytes
  have hr := B.returns
  have hts := atoms_spec (ws := wX1_dodge) B.pre
  have hown : s.vm.findClass RX1 = some m.cls := findClass_of_methodNamed B.named
  have hlocks := B.notSynchronized
  have hl := lv_entry ([.int p0, .int p1]) (n := 3) (Nat.le_of_ble_eq_true rfl)
  rw [show entryFrame m args 3 = entryFrame m (([.int p0, .int p1] : List Value).toArray) 3 from by rw [hargs], lg_entry_eq]
  generalize (lg_sl ([.int p0, .int p1]) ++ List.replicate (3 - (lg_sl ([.int p0, .int p1])).length) Slot.unset).toArray = ls at hl ⊢
  have hl : lv_has ls 3 [(0, .int p0), (1, .int p1)] := hl
  refine lv_iload_n hx hb dX1_dodge_0 rfl (lv_at hl 0 rfl) ?_
  refine lv_if_ne (tgt := 6) hx hb dX1_dodge_1 (by decide) (fun c4 => ?_) (fun c4 => ?_)
  · replace hw := And.left hw c4
    refine lv_sipush (v := 255) hx hb dX1_dodge_6 (by decide) ?_
    refine lv_iload_n hx hb dX1_dodge_9 rfl (lv_at hl 1 rfl) ?_
    refine lv_isub hx hb dX1_dodge_10 ?_
    refine lv_topi (fun v1 e_v1 => ?_)
    replace hw := hw v1 e_v1
    refine lv_istore_n (lv' := [(2, .int v1), (0, .int p0), (1, .int p1)]) hx hb dX1_dodge_11 rfl hl (by decide) rfl (fun ls hl => ?_)
    refine lv_iload_n hx hb dX1_dodge_12 rfl (lv_at hl 1 rfl) ?_
    refine lv_iload_n hx hb dX1_dodge_13 rfl (lv_at hl 0 rfl) ?_
    refine lv_icmp_ge (tgt := 21) hx hb dX1_dodge_14 (by decide) (fun c3 => ?_) (fun c3 => ?_)
    · replace hw := And.left hw c3
      refine lv_sipush (v := 255) hx hb dX1_dodge_21 (by decide) ?_
      exact W.iret hx hb hr (fun t ht hW => ⟨_, rfl, hw, ht⟩) (fun q h => by cases h) dX1_dodge_24
    · replace hw := And.right hw c3
      refine lv_iload_n hx hb dX1_dodge_17 rfl (lv_at hl 0 rfl) ?_
      refine lv_if_gt (tgt := 25) hx hb dX1_dodge_18 (by decide) (fun c2 => ?_) (fun c2 => ?_)
      · replace hw := And.left hw c2
        refine lv_sipush (v := 255) hx hb dX1_dodge_25 (by decide) ?_
        refine lv_iload_n hx hb dX1_dodge_28 rfl (lv_at hl 1 rfl) ?_
        refine lv_imul hx hb dX1_dodge_29 ?_
        refine lv_iload_n hx hb dX1_dodge_30 rfl (lv_at hl 0 rfl) ?_
        refine lv_iconst (v := 2) hx hb dX1_dodge_31 (by decide) ?_
        refine lv_idiv hx hb dX1_dodge_32 (by decide) ?_
        refine lv_iadd hx hb dX1_dodge_33 ?_
        refine lv_iload_n hx hb dX1_dodge_34 rfl (lv_at hl 0 rfl) ?_
        refine lv_idiv hx hb dX1_dodge_35 (And.left hw) ?_
        replace hw := And.right hw
        exact W.iret hx hb hr (fun t ht hW => ⟨_, rfl, hw, ht⟩) (fun q h => by cases h) dX1_dodge_36
      · replace hw := And.right hw c2
        refine lv_sipush (v := 255) hx hb dX1_dodge_21 (by decide) ?_
        exact W.iret hx hb hr (fun t ht hW => ⟨_, rfl, hw, ht⟩) (fun q h => by cases h) dX1_dodge_24
  · replace hw := And.right hw c4
    refine lv_iconst (v := 0) hx hb dX1_dodge_4 (by decide) ?_
    exact W.iret hx hb hr (fun t ht hW => ⟨_, rfl, hw, ht⟩) (fun q h => by cases h) dX1_dodge_5
abbrev wX1_burn : List Cond := Cond.code yX1_burn cX1_burn 2 (some .int) :: gG
def wp_X1_burn (p0 : Int32) (p1 : Int32) (P : Int32 → Prop) : Prop :=
  ((¬ p0 = 255 → (((p0 + p1) ≤ 255 → P 0) ∧
  (¬ (p0 + p1) ≤ 255 → ((0 < p1 → (¬ p1 = 0 ∧ P (255 - (((255 * (255 - p0)) + (p1 / 2)) / p1)))) ∧
  (¬ 0 < p1 → P 0))))) ∧
  (p0 = 255 → P 255))
abbrev rm_X1_burn : Room := { frames := 0, cells := 0, slots := 0, locals := 0 }
set_option maxHeartbeats 4000000 in
set_option maxRecDepth 100000 in
theorem c_X1_burn (l : Launch) (p0 : Int32) (p1 : Int32) (P : Int32 → Prop) (hw : wp_X1_burn p0 p1 P) : Met l yX1_burn wX1_burn rm_X1_burn (xP0 [.int p0, .int p1]) (vp_Si P) 0 0 (fun _ => False) := by
  refine Met.ofW (cc := cX1_burn) (maxL := 2) (ret := (some .int)) (by decide) rfl ?_
  intro p e s m args below meth c s₁ B hml hv
  obtain ⟨hargs, -⟩ := hv
  have hx := B.exec
  have hb := B.bytes
  have hr := B.returns
  have hts := atoms_spec (ws := wX1_burn) B.pre
  have hown : s.vm.findClass RX1 = some m.cls := findClass_of_methodNamed B.named
  have hlocks := B.notSynchronized
  have hl := lv_entry ([.int p0, .int p1]) (n := 2) (Nat.le_of_ble_eq_true rfl)
  rw [show entryFrame m args 2 = entryFrame m (([.int p0, .int p1] : List Value).toArray) 2 from by rw [hargs], lg_entry_eq]
  generalize (lg_sl ([.int p0, .int p1]) ++ List.replicate (2 - (lg_sl ([.int p0, .int p1])).length) Slot.unset).toArray = ls at hl ⊢
  have hl : lv_has ls 2 [(0, .int p0), (1, .int p1)] := hl
  refine lv_iload_n hx hb dX1_burn_0 rfl (lv_at hl 0 rfl) ?_
  refine lv_sipush (v := 255) hx hb dX1_burn_1 (by decide) ?_
  refine lv_icmp_ne (tgt := 11) hx hb dX1_burn_4 (by decide) (fun c3 => ?_) (fun c3 => ?_)
  · replace hw := And.left hw c3
    refine lv_iload_n hx hb dX1_burn_11 rfl (lv_at hl 0 rfl) ?_
    refine lv_iload_n hx hb dX1_burn_12 rfl (lv_at hl 1 rfl) ?_
    refine lv_iadd hx hb dX1_burn_13 ?_
    refine lv_sipush (v := 255) hx hb dX1_burn_14 (by decide) ?_
    refine lv_icmp_le (tgt := 24) hx hb dX1_burn_17 (by decide) (fun c2 => ?_) (fun c2 => ?_)
    · replace hw := And.left hw c2
      refine lv_iconst (v := 0) hx hb dX1_burn_24 (by decide) ?_
      exact W.iret hx hb hr (fun t ht hW => ⟨_, rfl, hw, ht⟩) (fun q h => by cases h) dX1_burn_25
    · replace hw := And.right hw c2
      refine lv_iload_n hx hb dX1_burn_20 rfl (lv_at hl 1 rfl) ?_
      refine lv_if_gt (tgt := 26) hx hb dX1_burn_21 (by decide) (fun c1 => ?_) (fun c1 => ?_)
      · replace hw := And.left hw c1
        refine lv_sipush (v := 255) hx hb dX1_burn_26 (by decide) ?_
        refine lv_sipush (v := 255) hx hb dX1_burn_29 (by decide) ?_
        refine lv_sipush (v := 255) hx hb dX1_burn_32 (by decide) ?_
        refine lv_iload_n hx hb dX1_burn_35 rfl (lv_at hl 0 rfl) ?_
        refine lv_isub hx hb dX1_burn_36 ?_
        refine lv_imul hx hb dX1_burn_37 ?_
        refine lv_iload_n hx hb dX1_burn_38 rfl (lv_at hl 1 rfl) ?_
        refine lv_iconst (v := 2) hx hb dX1_burn_39 (by decide) ?_
        refine lv_idiv hx hb dX1_burn_40 (by decide) ?_
        refine lv_iadd hx hb dX1_burn_41 ?_
        refine lv_iload_n hx hb dX1_burn_42 rfl (lv_at hl 1 rfl) ?_
        refine lv_idiv hx hb dX1_burn_43 (And.left hw) ?_
        replace hw := And.right hw
        refine lv_isub hx hb dX1_burn_44 ?_
        exact W.iret hx hb hr (fun t ht hW => ⟨_, rfl, hw, ht⟩) (fun q h => by cases h) dX1_burn_45
      · replace hw := And.right hw c1
        refine lv_iconst (v := 0) hx hb dX1_burn_24 (by decide) ?_
        exact W.iret hx hb hr (fun t ht hW => ⟨_, rfl, hw, ht⟩) (fun q h => by cases h) dX1_burn_25
  · replace hw := And.right hw c3
    refine lv_sipush (v := 255) hx hb dX1_burn_7 (by decide) ?_
    exact W.iret hx hb hr (fun t ht hW => ⟨_, rfl, hw, ht⟩) (fun q h => by cases h) dX1_burn_10
abbrev wX1_hardLight : List Cond := Cond.code yX1_hardLight cX1_hardLight 2 (some .int) :: gG
def wp_X1_hardLight (p0 : Int32) (p1 : Int32) (P : Int32 → Prop) : Prop :=
  ((127 < p1 → wp_X2_union p0 ((2 * p1) - 255) (fun r1 => P r1)) ∧
  (¬ 127 < p1 → wp_X2_mul p0 (2 * p1) (fun r2 => P r2)))
abbrev rm_X1_hardLight : Room := { frames := 2, cells := 0, slots := 0, locals := 42 }
set_option maxHeartbeats 4000000 in
set_option maxRecDepth 100000 in
theorem c_X1_hardLight (l : Launch) (p0 : Int32) (p1 : Int32) (P : Int32 → Prop) (hw : wp_X1_hardLight p0 p1 P) : Met l yX1_hardLight wX1_hardLight rm_X1_hardLight (xP0 [.int p0, .int p1]) (vp_Si P) 0 0 (fun _ => False) := by
  refine Met.ofW (cc := cX1_hardLight) (maxL := 2) (ret := (some .int)) (by decide) rfl ?_
  intro p e s m args below meth c s₁ B hml hv
  obtain ⟨hargs, -⟩ := hv
  have hx := B.exec
  have hb := B.bytes
  have hr := B.returns
  have hts := atoms_spec (ws := wX1_hardLight) B.pre
  have hown : s.vm.findClass RX1 = some m.cls := findClass_of_methodNamed B.named
  have hlocks := B.notSynchronized
  have hl := lv_entry ([.int p0, .int p1]) (n := 2) (Nat.le_of_ble_eq_true rfl)
  rw [show entryFrame m args 2 = entryFrame m (([.int p0, .int p1] : List Value).toArray) 2 from by rw [hargs], lg_entry_eq]
  generalize (lg_sl ([.int p0, .int p1]) ++ List.replicate (2 - (lg_sl ([.int p0, .int p1])).length) Slot.unset).toArray = ls at hl ⊢
  have hl : lv_has ls 2 [(0, .int p0), (1, .int p1)] := hl
  refine lv_iload_n hx hb dX1_hardLight_0 rfl (lv_at hl 1 rfl) ?_
  refine lv_bipush (v := 127) hx hb dX1_hardLight_1 (by decide) ?_
  refine lv_icmp_gt (tgt := 16) hx hb dX1_hardLight_3 (by decide) (fun c3 => ?_) (fun c3 => ?_)
  · replace hw := And.left hw c3
    refine lv_iload_n hx hb dX1_hardLight_16 rfl (lv_at hl 0 rfl) ?_
    refine lv_iconst (v := 2) hx hb dX1_hardLight_17 (by decide) ?_
    refine lv_iload_n hx hb dX1_hardLight_18 rfl (lv_at hl 1 rfl) ?_
    refine lv_imul hx hb dX1_hardLight_19 ?_
    refine lv_sipush (v := 255) hx hb dX1_hardLight_20 (by decide) ?_
    refine lv_isub hx hb dX1_hardLight_23 ?_
    refine vp_callSi (va_Run.run (va_runS (As := [.int p0, .int ((2 * p1) - 255)]) (rest := []) ⟨hx, hb, hml, hown, hts⟩ (c_X2_union l p0 ((2 * p1) - 255) _ hw) (gcS 2 hts m257 m377 m256 m30 rfl rfl (by decide +kernel) ⟨Nat.le_of_ble_eq_true rfl, Nat.le_of_ble_eq_true rfl⟩) ⟨xbl0, fun U hU hW => ⟨rfl, trivial⟩⟩ rfl rfl hl.1 rfl (lv_room (Nat.le_of_ble_eq_true rfl)) dX1_hardLight_24 ⟨Nat.le_of_ble_eq_true rfl, Nat.le_of_ble_eq_true rfl⟩)) (fun r1 hw => ?_)
    exact W.iret hx hb hr (fun t ht hW => ⟨_, rfl, hw, ht⟩) (fun q h => by cases h) dX1_hardLight_27
  · replace hw := And.right hw c3
    refine lv_iload_n hx hb dX1_hardLight_6 rfl (lv_at hl 0 rfl) ?_
    refine lv_iconst (v := 2) hx hb dX1_hardLight_7 (by decide) ?_
    refine lv_iload_n hx hb dX1_hardLight_8 rfl (lv_at hl 1 rfl) ?_
    refine lv_imul hx hb dX1_hardLight_9 ?_
    refine vp_callSi (va_Run.run (va_runS (As := [.int p0, .int (2 * p1)]) (rest := []) ⟨hx, hb, hml, hown, hts⟩ (c_X2_mul l p0 (2 * p1) _ hw) (gcS 2 hts m260 m376 m259 m30 rfl rfl (by decide +kernel) ⟨Nat.le_of_ble_eq_true rfl, Nat.le_of_ble_eq_true rfl⟩) ⟨xbl0, fun U hU hW => ⟨rfl, trivial⟩⟩ rfl rfl hl.1 rfl (lv_room (Nat.le_of_ble_eq_true rfl)) dX1_hardLight_10 ⟨Nat.le_of_ble_eq_true rfl, Nat.le_of_ble_eq_true rfl⟩)) (fun r2 hw => ?_)
    refine lv_goto (tgt := 27) hx hb dX1_hardLight_13 (by decide) ?_
    exact W.iret hx hb hr (fun t ht hW => ⟨_, rfl, hw, ht⟩) (fun q h => by cases h) dX1_hardLight_27
abbrev wX1_rootOf : List Cond := Cond.code yX1_rootOf cX1_rootOf 4 (some .int) :: gG
def wp_X1_rootOf_23 (K : Int32 → Int32 → Prop) (x0 : Int32) (x1 : Int32) (x2 : Int32) : Prop :=
  ∀ v2 : Int32, v2 = (x2 >>> (1 &&& 31)) → K x1 v2
def wp_X1_rootOf_6 (KX : Int32 → Prop) (x0 : Int32) : Nat → Int32 → Int32 → Prop
  | 0, _, _ => False
  | N6 + 1, x1, x2 =>
    ((x2 ≤ 0 → KX x1) ∧
  (¬ x2 ≤ 0 → ∀ v1 : Int32, v1 = (x1 + x2) → ((x0 < (v1 * v1) → wp_X1_rootOf_23 (wp_X1_rootOf_6 KX x0 N6) x0 x1 x2) ∧
  (¬ x0 < (v1 * v1) → wp_X1_rootOf_23 (wp_X1_rootOf_6 KX x0 N6) x0 v1 x2))))
def wp_X1_rootOf (p0 : Int32) (P : Int32 → Prop) : Prop :=
  (∃ N6, wp_X1_rootOf_6 (fun (y5 : Int32) => P y5) p0 N6 0 128)
abbrev rm_X1_rootOf : Room := { frames := 0, cells := 0, slots := 0, locals := 0 }
set_option maxHeartbeats 4000000 in
set_option maxRecDepth 100000 in
theorem c_X1_rootOf (l : Launch) (p0 : Int32) (P : Int32 → Prop) (hw : wp_X1_rootOf p0 P) : Met l yX1_rootOf wX1_rootOf rm_X1_rootOf (xP0 [.int p0]) (vp_Si P) 0 0 (fun _ => False) := by
  refine Met.ofW (cc := cX1_rootOf) (maxL := 4) (ret := (some .int)) (by decide) rfl ?_
  intro p e s m args below meth c s₁ B hml hv
  obtain ⟨hargs, -⟩ := hv
  have hx := B.exec
  have hb := B.bytes
  have hr := B.returns
  have hts := atoms_spec (ws := wX1_rootOf) B.pre
  have hown : s.vm.findClass RX1 = some m.cls := findClass_of_methodNamed B.named
  have hlocks := B.notSynchronized
  have J23 : ∀ (K : Int32 → Int32 → Prop) (x0 : Int32) (x1 : Int32) (x2 : Int32), wp_X1_rootOf_23 K x0 x1 x2 → (∀ (x1 : Int32) (x2 : Int32), K x1 x2 → ∀ (ls : Array Slot), lv_has ls 4 [(0, .int x0), (1, .int x1), (2, .int x2)] → W p l e (headSpec wX1_rootOf rm_X1_rootOf).room s m args below meth c s.heap [] 0 0 (MQ below (vp_Si P) args s 0 0 (fun _ => False)) (F0 m 6 ls [])) → ∀ (ls : Array Slot), lv_has ls 4 [(0, .int x0), (1, .int x1), (2, .int x2)] → W p l e (headSpec wX1_rootOf rm_X1_rootOf).room s m args below meth c s.heap [] 0 0 (MQ below (vp_Si P) args s 0 0 (fun _ => False)) (F0 m 23 ls []) := by
    intro K x0 x1 x2 hw hk ls hl
    refine lv_iload_n hx hb dX1_rootOf_23 rfl (lv_at hl 2 rfl) ?_
    refine lv_iconst (v := 1) hx hb dX1_rootOf_24 (by decide) ?_
    refine lv_ishr hx hb dX1_rootOf_25 ?_
    refine lv_topi (fun v2 e_v2 => ?_)
    replace hw := hw v2 e_v2
    refine lv_istore_n (lv' := [(2, .int v2), (0, .int x0), (1, .int x1)]) hx hb dX1_rootOf_26 rfl hl (by decide) rfl (fun ls hl => ?_)
    refine lv_goto (tgt := 6) hx hb dX1_rootOf_27 (by decide) ?_
    exact hk _ _ hw _ (lv_sub hl [1, 2, 0] rfl)
  have L6 : ∀ (KX : Int32 → Prop) (x0 : Int32), (∀ (x1 : Int32), KX x1 → ∀ (ls : Array Slot), lv_has ls 4 [(1, .int x1)] → W p l e (headSpec wX1_rootOf rm_X1_rootOf).room s m args below meth c s.heap [] 0 0 (MQ below (vp_Si P) args s 0 0 (fun _ => False)) (F0 m 30 ls [])) → ∀ (N : Nat) (x1 : Int32) (x2 : Int32), wp_X1_rootOf_6 KX x0 N x1 x2 → ∀ (ls : Array Slot), lv_has ls 4 [(0, .int x0), (1, .int x1), (2, .int x2)] → W p l e (headSpec wX1_rootOf rm_X1_rootOf).room s m args below meth c s.heap [] 0 0 (MQ below (vp_Si P) args s 0 0 (fun _ => False)) (F0 m 6 ls []) := by
    intro KX x0 hx2 N6
    induction N6 with
    | zero =>
      intro x1 x2 hw
      exact False.elim hw
    | succ N6 hk =>
      intro x1 x2 hw ls hl
      rw [wp_X1_rootOf_6] at hw
      refine lv_iload_n hx hb dX1_rootOf_6 rfl (lv_at hl 2 rfl) ?_
      refine lv_if_le (tgt := 30) hx hb dX1_rootOf_7 (by decide) (fun c4 => ?_) (fun c4 => ?_)
      · replace hw := And.left hw c4
        exact hx2 _ hw _ (lv_sub hl [1] rfl)
      · replace hw := And.right hw c4
        refine lv_iload_n hx hb dX1_rootOf_10 rfl (lv_at hl 1 rfl) ?_
        refine lv_iload_n hx hb dX1_rootOf_11 rfl (lv_at hl 2 rfl) ?_
        refine lv_iadd hx hb dX1_rootOf_12 ?_
        refine lv_topi (fun v1 e_v1 => ?_)
        replace hw := hw v1 e_v1
        refine lv_istore_n (lv' := [(3, .int v1), (0, .int x0), (1, .int x1), (2, .int x2)]) hx hb dX1_rootOf_13 rfl hl (by decide) rfl (fun ls hl => ?_)
        refine lv_iload_n hx hb dX1_rootOf_14 rfl (lv_at hl 0 rfl) ?_
        refine lv_iload_n hx hb dX1_rootOf_15 rfl (lv_at hl 0 rfl) ?_
        refine lv_imul hx hb dX1_rootOf_16 ?_
        refine lv_iload_n hx hb dX1_rootOf_17 rfl (lv_at hl 1 rfl) ?_
        refine lv_icmp_gt (tgt := 23) hx hb dX1_rootOf_18 (by decide) (fun c3 => ?_) (fun c3 => ?_)
        · replace hw := And.left hw c3
          exact J23 _ _ _ _ hw hk _ (lv_sub hl [1, 2, 3] rfl)
        · replace hw := And.right hw c3
          refine lv_iload_n hx hb dX1_rootOf_21 rfl (lv_at hl 0 rfl) ?_
          refine lv_istore_n (lv' := [(1, .int v1), (3, .int v1), (0, .int x0), (2, .int x2)]) hx hb dX1_rootOf_22 rfl hl (by decide) rfl (fun ls hl => ?_)
          exact J23 _ _ _ _ hw hk _ (lv_sub hl [2, 0, 3] rfl)
  have hl := lv_entry ([.int p0]) (n := 4) (Nat.le_of_ble_eq_true rfl)
  rw [show entryFrame m args 4 = entryFrame m (([.int p0] : List Value).toArray) 4 from by rw [hargs], lg_entry_eq]
  generalize (lg_sl ([.int p0]) ++ List.replicate (4 - (lg_sl ([.int p0])).length) Slot.unset).toArray = ls at hl ⊢
  have hl : lv_has ls 4 [(0, .int p0)] := hl
  refine lv_iconst (v := 0) hx hb dX1_rootOf_0 (by decide) ?_
  refine lv_istore_n (lv' := [(1, .int 0), (0, .int p0)]) hx hb dX1_rootOf_1 rfl hl (by decide) rfl (fun ls hl => ?_)
  refine lv_sipush (v := 128) hx hb dX1_rootOf_2 (by decide) ?_
  refine lv_istore_n (lv' := [(2, .int 128), (1, .int 0), (0, .int p0)]) hx hb dX1_rootOf_5 rfl hl (by decide) rfl (fun ls hl => ?_)
  obtain ⟨N6, hw⟩ := hw
  refine L6 _ _ (fun y5 hw ls hl => ?_) N6 _ _ hw _ (lv_sub hl [2, 1, 0] rfl)
  refine lv_iload_n hx hb dX1_rootOf_30 rfl (lv_at hl 0 rfl) ?_
  exact W.iret hx hb hr (fun t ht hW => ⟨_, rfl, hw, ht⟩) (fun q h => by cases h) dX1_rootOf_31
abbrev wX1_softLight : List Cond := Cond.code yX1_softLight cX1_softLight 2 (some .int) :: gG
def wp_X1_softLight (p0 : Int32) (p1 : Int32) (P : Int32 → Prop) : Prop :=
  ((127 < p1 → wp_X1_rootOf (255 * p0) (fun r1 => wp_X2_mul ((2 * p1) - 255) (r1 - p0) (fun r2 => P (p0 + r2)))) ∧
  (¬ 127 < p1 → wp_X2_mul p0 (255 - p0) (fun r3 => wp_X2_mul (255 - (2 * p1)) r3 (fun r4 => P (p0 - r4)))))
abbrev rm_X1_softLight : Room := { frames := 1, cells := 0, slots := 0, locals := 23 }
set_option maxHeartbeats 4000000 in
set_option maxRecDepth 100000 in
theorem c_X1_softLight (l : Launch) (p0 : Int32) (p1 : Int32) (P : Int32 → Prop) (hw : wp_X1_softLight p0 p1 P) : Met l yX1_softLight wX1_softLight rm_X1_softLight (xP0 [.int p0, .int p1]) (vp_Si P) 0 0 (fun _ => False) := by
  refine Met.ofW (cc := cX1_softLight) (maxL := 2) (ret := (some .int)) (by decide) rfl ?_
  intro p e s m args below meth c s₁ B hml hv
  obtain ⟨hargs, -⟩ := hv
  have hx := B.exec
  have hb := B.bytes
  have hr := B.returns
  have hts := atoms_spec (ws := wX1_softLight) B.pre
  have hown : s.vm.findClass RX1 = some m.cls := findClass_of_methodNamed B.named
  have hlocks := B.notSynchronized
  have hl := lv_entry ([.int p0, .int p1]) (n := 2) (Nat.le_of_ble_eq_true rfl)
  rw [show entryFrame m args 2 = entryFrame m (([.int p0, .int p1] : List Value).toArray) 2 from by rw [hargs], lg_entry_eq]
  generalize (lg_sl ([.int p0, .int p1]) ++ List.replicate (2 - (lg_sl ([.int p0, .int p1])).length) Slot.unset).toArray = ls at hl ⊢
  have hl : lv_has ls 2 [(0, .int p0), (1, .int p1)] := hl
  refine lv_iload_n hx hb dX1_softLight_0 rfl (lv_at hl 1 rfl) ?_
  refine lv_bipush (v := 127) hx hb dX1_softLight_1 (by decide) ?_
  refine lv_icmp_gt (tgt := 28) hx hb dX1_softLight_3 (by decide) (fun c5 => ?_) (fun c5 => ?_)
  · replace hw := And.left hw c5
    refine lv_iload_n hx hb dX1_softLight_28 rfl (lv_at hl 0 rfl) ?_
    refine lv_iconst (v := 2) hx hb dX1_softLight_29 (by decide) ?_
    refine lv_iload_n hx hb dX1_softLight_30 rfl (lv_at hl 1 rfl) ?_
    refine lv_imul hx hb dX1_softLight_31 ?_
    refine lv_sipush (v := 255) hx hb dX1_softLight_32 (by decide) ?_
    refine lv_isub hx hb dX1_softLight_35 ?_
    refine lv_sipush (v := 255) hx hb dX1_softLight_36 (by decide) ?_
    refine lv_iload_n hx hb dX1_softLight_39 rfl (lv_at hl 0 rfl) ?_
    refine lv_imul hx hb dX1_softLight_40 ?_
    refine vp_callSi (va_Run.run (va_runS (As := [.int (255 * p0)]) (rest := [.int ((2 * p1) - 255), .int p0]) ⟨hx, hb, hml, hown, hts⟩ (c_X1_rootOf l (255 * p0) _ hw) (gcS 1 hts m392 m390 m391 m32 rfl rfl (by decide +kernel) ⟨Nat.le_of_ble_eq_true rfl, Nat.le_of_ble_eq_true rfl⟩) ⟨xbl0, fun U hU hW => ⟨rfl, trivial⟩⟩ rfl rfl hl.1 rfl (lv_room (Nat.le_of_ble_eq_true rfl)) dX1_softLight_41 ⟨Nat.le_of_ble_eq_true rfl, Nat.le_of_ble_eq_true rfl⟩)) (fun r1 hw => ?_)
    refine lv_iload_n hx hb dX1_softLight_44 rfl (lv_at hl 0 rfl) ?_
    refine lv_isub hx hb dX1_softLight_45 ?_
    refine vp_callSi (va_Run.run (va_runS (As := [.int ((2 * p1) - 255), .int (r1 - p0)]) (rest := [.int p0]) ⟨hx, hb, hml, hown, hts⟩ (c_X2_mul l ((2 * p1) - 255) (r1 - p0) _ hw) (gcS 2 hts m260 m376 m259 m30 rfl rfl (by decide +kernel) ⟨Nat.le_of_ble_eq_true rfl, Nat.le_of_ble_eq_true rfl⟩) ⟨xbl0, fun U hU hW => ⟨rfl, trivial⟩⟩ rfl rfl hl.1 rfl (lv_room (Nat.le_of_ble_eq_true rfl)) dX1_softLight_46 ⟨Nat.le_of_ble_eq_true rfl, Nat.le_of_ble_eq_true rfl⟩)) (fun r2 hw => ?_)
    refine lv_iadd hx hb dX1_softLight_49 ?_
    exact W.iret hx hb hr (fun t ht hW => ⟨_, rfl, hw, ht⟩) (fun q h => by cases h) dX1_softLight_50
  · replace hw := And.right hw c5
    refine lv_iload_n hx hb dX1_softLight_6 rfl (lv_at hl 0 rfl) ?_
    refine lv_sipush (v := 255) hx hb dX1_softLight_7 (by decide) ?_
    refine lv_iconst (v := 2) hx hb dX1_softLight_10 (by decide) ?_
    refine lv_iload_n hx hb dX1_softLight_11 rfl (lv_at hl 1 rfl) ?_
    refine lv_imul hx hb dX1_softLight_12 ?_
    refine lv_isub hx hb dX1_softLight_13 ?_
    refine lv_iload_n hx hb dX1_softLight_14 rfl (lv_at hl 0 rfl) ?_
    refine lv_sipush (v := 255) hx hb dX1_softLight_15 (by decide) ?_
    refine lv_iload_n hx hb dX1_softLight_18 rfl (lv_at hl 0 rfl) ?_
    refine lv_isub hx hb dX1_softLight_19 ?_
    refine vp_callSi (va_Run.run (va_runS (As := [.int p0, .int (255 - p0)]) (rest := [.int (255 - (2 * p1)), .int p0]) ⟨hx, hb, hml, hown, hts⟩ (c_X2_mul l p0 (255 - p0) _ hw) (gcS 2 hts m260 m376 m259 m30 rfl rfl (by decide +kernel) ⟨Nat.le_of_ble_eq_true rfl, Nat.le_of_ble_eq_true rfl⟩) ⟨xbl0, fun U hU hW => ⟨rfl, trivial⟩⟩ rfl rfl hl.1 rfl (lv_room (Nat.le_of_ble_eq_true rfl)) dX1_softLight_20 ⟨Nat.le_of_ble_eq_true rfl, Nat.le_of_ble_eq_true rfl⟩)) (fun r3 hw => ?_)
    refine vp_callSi (va_Run.run (va_runS (As := [.int (255 - (2 * p1)), .int r3]) (rest := [.int p0]) ⟨hx, hb, hml, hown, hts⟩ (c_X2_mul l (255 - (2 * p1)) r3 _ hw) (gcS 2 hts m260 m376 m259 m30 rfl rfl (by decide +kernel) ⟨Nat.le_of_ble_eq_true rfl, Nat.le_of_ble_eq_true rfl⟩) ⟨xbl0, fun U hU hW => ⟨rfl, trivial⟩⟩ rfl rfl hl.1 rfl (lv_room (Nat.le_of_ble_eq_true rfl)) dX1_softLight_23 ⟨Nat.le_of_ble_eq_true rfl, Nat.le_of_ble_eq_true rfl⟩)) (fun r4 hw => ?_)
    refine lv_isub hx hb dX1_softLight_26 ?_
    exact W.iret hx hb hr (fun t ht hW => ⟨_, rfl, hw, ht⟩) (fun q h => by cases h) dX1_softLight_27
abbrev wX1_lumOf : List Cond := Cond.code yX1_lumOf cX1_lumOf 1 (some .int) :: gG
def wp_X1_lumOf (p0 : Int32) (P : Int32 → Prop) : Prop :=
  wp_X2_bandOf p0 0 (fun r1 => wp_X2_bandOf p0 1 (fun r2 => wp_X2_bandOf p0 2 (fun r3 => wp_X2_lum r1 r2 r3 (fun r4 => P r4))))
abbrev rm_X1_lumOf : Room := { frames := 2, cells := 0, slots := 0, locals := 44 }
set_option maxHeartbeats 4000000 in
set_option maxRecDepth 100000 in
theorem c_X1_lumOf (l : Launch) (p0 : Int32) (P : Int32 → Prop) (hw : wp_X1_lumOf p0 P) : Met l yX1_lumOf wX1_lumOf rm_X1_lumOf (xP0 [.int p0]) (vp_Si P) 0 0 (fun _ => False) := by
  refine Met.ofW (cc := cX1_lumOf) (maxL := 1) (ret := (some .int)) (by decide) rfl ?_
  intro p e s m args below meth c s₁ B hml hv
  obtain ⟨hargs, -⟩ := hv
  have hx := B.exec
  have hb := B.bytes
  have hr := B.returns
  have hts := atoms_spec (ws := wX1_lumOf) B.pre
  have hown : s.vm.findClass RX1 = some m.cls := findClass_of_methodNamed B.named
  have hlocks := B.notSynchronized
  have hl := lv_entry ([.int p0]) (n := 1) (Nat.le_of_ble_eq_true rfl)
  rw [show entryFrame m args 1 = entryFrame m (([.int p0] : List Value).toArray) 1 from by rw [hargs], lg_entry_eq]
  generalize (lg_sl ([.int p0]) ++ List.replicate (1 - (lg_sl ([.int p0])).length) Slot.unset).toArray = ls at hl ⊢
  have hl : lv_has ls 1 [(0, .int p0)] := hl
  refine lv_iload_n hx hb dX1_lumOf_0 rfl (lv_at hl 0 rfl) ?_
  refine lv_iconst (v := 0) hx hb dX1_lumOf_1 (by decide) ?_
  refine vp_callSi (va_Run.run (va_runS (As := [.int p0, .int 0]) (rest := []) ⟨hx, hb, hml, hown, hts⟩ (c_X2_bandOf l p0 0 _ hw) (gcS 2 hts m320 m343 m319 m30 rfl rfl (by decide +kernel) ⟨Nat.le_of_ble_eq_true rfl, Nat.le_of_ble_eq_true rfl⟩) ⟨xbl0, fun U hU hW => ⟨rfl, trivial⟩⟩ rfl rfl hl.1 rfl (lv_room (Nat.le_of_ble_eq_true rfl)) dX1_lumOf_2 ⟨Nat.le_of_ble_eq_true rfl, Nat.le_of_ble_eq_true rfl⟩)) (fun r1 hw => ?_)
  refine lv_iload_n hx hb dX1_lumOf_5 rfl (lv_at hl 0 rfl) ?_
  refine lv_iconst (v := 1) hx hb dX1_lumOf_6 (by decide) ?_
  refine vp_callSi (va_Run.run (va_runS (As := [.int p0, .int 1]) (rest := [.int r1]) ⟨hx, hb, hml, hown, hts⟩ (c_X2_bandOf l p0 1 _ hw) (gcS 2 hts m320 m343 m319 m30 rfl rfl (by decide +kernel) ⟨Nat.le_of_ble_eq_true rfl, Nat.le_of_ble_eq_true rfl⟩) ⟨xbl0, fun U hU hW => ⟨rfl, trivial⟩⟩ rfl rfl hl.1 rfl (lv_room (Nat.le_of_ble_eq_true rfl)) dX1_lumOf_7 ⟨Nat.le_of_ble_eq_true rfl, Nat.le_of_ble_eq_true rfl⟩)) (fun r2 hw => ?_)
  refine lv_iload_n hx hb dX1_lumOf_10 rfl (lv_at hl 0 rfl) ?_
  refine lv_iconst (v := 2) hx hb dX1_lumOf_11 (by decide) ?_
  refine vp_callSi (va_Run.run (va_runS (As := [.int p0, .int 2]) (rest := [.int r2, .int r1]) ⟨hx, hb, hml, hown, hts⟩ (c_X2_bandOf l p0 2 _ hw) (gcS 2 hts m320 m343 m319 m30 rfl rfl (by decide +kernel) ⟨Nat.le_of_ble_eq_true rfl, Nat.le_of_ble_eq_true rfl⟩) ⟨xbl0, fun U hU hW => ⟨rfl, trivial⟩⟩ rfl rfl hl.1 rfl (lv_room (Nat.le_of_ble_eq_true rfl)) dX1_lumOf_12 ⟨Nat.le_of_ble_eq_true rfl, Nat.le_of_ble_eq_true rfl⟩)) (fun r3 hw => ?_)
  refine vp_callSi (va_Run.run (va_runS (As := [.int r1, .int r2, .int r3]) (rest := []) ⟨hx, hb, hml, hown, hts⟩ (c_X2_lum l r1 r2 r3 _ hw) (gcS 3 hts m361 m359 m360 m30 rfl rfl (by decide +kernel) ⟨Nat.le_of_ble_eq_true rfl, Nat.le_of_ble_eq_true rfl⟩) ⟨xbl0, fun U hU hW => ⟨rfl, trivial⟩⟩ rfl rfl hl.1 rfl (lv_room (Nat.le_of_ble_eq_true rfl)) dX1_lumOf_15 ⟨Nat.le_of_ble_eq_true rfl, Nat.le_of_ble_eq_true rfl⟩)) (fun r4 hw => ?_)
  exact W.iret hx hb hr (fun t ht hW => ⟨_, rfl, hw, ht⟩) (fun q h => by cases h) dX1_lumOf_18
abbrev wX1_leastOf : List Cond := Cond.code yX1_leastOf cX1_leastOf 3 (some .int) :: gG
def wp_X1_leastOf (p0 : Int32) (p1 : Int32) (p2 : Int32) (P : Int32 → Prop) : Prop :=
  P (if (if p2 < p1 then p2 else p1) < p0 then (if p2 < p1 then p2 else p1) else p0)
abbrev rm_X1_leastOf : Room := { frames := 1, cells := 0, slots := 0, locals := 21 }
set_option maxHeartbeats 4000000 in
set_option maxRecDepth 100000 in
theorem c_X1_leastOf (l : Launch) (p0 : Int32) (p1 : Int32) (p2 : Int32) (P : Int32 → Prop) (hw : wp_X1_leastOf p0 p1 p2 P) : Met l yX1_leastOf wX1_leastOf rm_X1_leastOf (xP0 [.int p0, .int p1, .int p2]) (vp_Si P) 0 0 (fun _ => False) := by
  refine Met.ofW (cc := cX1_leastOf) (maxL := 3) (ret := (some .int)) (by decide) rfl ?_
  intro p e s m args below meth c s₁ B hml hv
  obtain ⟨hargs, -⟩ := hv
  have hx := B.exec
  have hb := B.bytes
  have hr := B.returns
  have hts := atoms_spec (ws := wX1_leastOf) B.pre
  have hown : s.vm.findClass RX1 = some m.cls := findClass_of_methodNamed B.named
  have hlocks := B.notSynchronized
  have hl := lv_entry ([.int p0, .int p1, .int p2]) (n := 3) (Nat.le_of_ble_eq_true rfl)
  rw [show entryFrame m args 3 = entryFrame m (([.int p0, .int p1, .int p2] : List Value).toArray) 3 from by rw [hargs], lg_entry_eq]
  generalize (lg_sl ([.int p0, .int p1, .int p2]) ++ List.replicate (3 - (lg_sl ([.int p0, .int p1, .int p2])).length) Slot.unset).toArray = ls at hl ⊢
  have hl : lv_has ls 3 [(0, .int p0), (1, .int p1), (2, .int p2)] := hl
  refine lv_iload_n hx hb dX1_leastOf_0 rfl (lv_at hl 0 rfl) ?_
  refine lv_iload_n hx hb dX1_leastOf_1 rfl (lv_at hl 1 rfl) ?_
  refine lv_iload_n hx hb dX1_leastOf_2 rfl (lv_at hl 2 rfl) ?_
  refine va_mmin hx hb (hml.trans hl.1.symm) hown (hts _ (xm m351)) (hts _ (xm m44)) (hts _ (xm m22)) (hts _ (xm m45)) (Nat.le_of_ble_eq_true rfl) (Nat.le_of_ble_eq_true rfl) (Nat.le_of_ble_eq_true rfl) (Nat.le_of_ble_eq_true rfl) dX1_leastOf_3 ?_
  refine va_mmin hx hb (hml.trans hl.1.symm) hown (hts _ (xm m351)) (hts _ (xm m44)) (hts _ (xm m22)) (hts _ (xm m45)) (Nat.le_of_ble_eq_true rfl) (Nat.le_of_ble_eq_true rfl) (Nat.le_of_ble_eq_true rfl) (Nat.le_of_ble_eq_true rfl) dX1_leastOf_6 ?_
  exact W.iret hx hb hr (fun t ht hW => ⟨_, rfl, hw, ht⟩) (fun q h => by cases h) dX1_leastOf_9
abbrev wX1_mostOf : List Cond := Cond.code yX1_mostOf cX1_mostOf 3 (some .int) :: gG
def wp_X1_mostOf (p0 : Int32) (p1 : Int32) (p2 : Int32) (P : Int32 → Prop) : Prop :=
  P (if p0 < (if p1 < p2 then p2 else p1) then (if p1 < p2 then p2 else p1) else p0)
abbrev rm_X1_mostOf : Room := { frames := 1, cells := 0, slots := 0, locals := 21 }
set_option maxHeartbeats 4000000 in
set_option maxRecDepth 100000 in
theorem c_X1_mostOf (l : Launch) (p0 : Int32) (p1 : Int32) (p2 : Int32) (P : Int32 → Prop) (hw : wp_X1_mostOf p0 p1 p2 P) : Met l yX1_mostOf wX1_mostOf rm_X1_mostOf (xP0 [.int p0, .int p1, .int p2]) (vp_Si P) 0 0 (fun _ => False) := by
  refine Met.ofW (cc := cX1_mostOf) (maxL := 3) (ret := (some .int)) (by decide) rfl ?_
  intro p e s m args below meth c s₁ B hml hv
  obtain ⟨hargs, -⟩ := hv
  have hx := B.exec
  have hb := B.bytes
  have hr := B.returns
  have hts := atoms_spec (ws := wX1_mostOf) B.pre
  have hown : s.vm.findClass RX1 = some m.cls := findClass_of_methodNamed B.named
  have hlocks := B.notSynchronized
  have hl := lv_entry ([.int p0, .int p1, .int p2]) (n := 3) (Nat.le_of_ble_eq_true rfl)
  rw [show entryFrame m args 3 = entryFrame m (([.int p0, .int p1, .int p2] : List Value).toArray) 3 from by rw [hargs], lg_entry_eq]
  generalize (lg_sl ([.int p0, .int p1, .int p2]) ++ List.replicate (3 - (lg_sl ([.int p0, .int p1, .int p2])).length) Slot.unset).toArray = ls at hl ⊢
  have hl : lv_has ls 3 [(0, .int p0), (1, .int p1), (2, .int p2)] := hl
  refine lv_iload_n hx hb dX1_mostOf_0 rfl (lv_at hl 0 rfl) ?_
  refine lv_iload_n hx hb dX1_mostOf_1 rfl (lv_at hl 1 rfl) ?_
  refine lv_iload_n hx hb dX1_mostOf_2 rfl (lv_at hl 2 rfl) ?_
  refine va_mmax hx hb (hml.trans hl.1.symm) hown (hts _ (xm m347)) (hts _ (xm m47)) (hts _ (xm m22)) (hts _ (xm m48)) (Nat.le_of_ble_eq_true rfl) (Nat.le_of_ble_eq_true rfl) (Nat.le_of_ble_eq_true rfl) (Nat.le_of_ble_eq_true rfl) dX1_mostOf_3 ?_
  refine va_mmax hx hb (hml.trans hl.1.symm) hown (hts _ (xm m347)) (hts _ (xm m47)) (hts _ (xm m22)) (hts _ (xm m48)) (Nat.le_of_ble_eq_true rfl) (Nat.le_of_ble_eq_true rfl) (Nat.le_of_ble_eq_true rfl) (Nat.le_of_ble_eq_true rfl) dX1_mostOf_6 ?_
  exact W.iret hx hb hr (fun t ht hW => ⟨_, rfl, hw, ht⟩) (fun q h => by cases h) dX1_mostOf_9
abbrev wX1_satOf : List Cond := Cond.code yX1_satOf cX1_satOf 4 (some .int) :: gG
def wp_X1_satOf (p0 : Int32) (P : Int32 → Prop) : Prop :=
  wp_X2_bandOf p0 0 (fun r1 => wp_X2_bandOf p0 1 (fun r2 => wp_X2_bandOf p0 2 (fun r3 => wp_X1_mostOf r1 r2 r3 (fun r4 => wp_X1_leastOf r1 r2 r3 (fun r5 => P (r4 - r5))))))
abbrev rm_X1_satOf : Room := { frames := 2, cells := 0, slots := 0, locals := 43 }
set_option maxHeartbeats 4000000 in
set_option maxRecDepth 100000 in
theorem c_X1_satOf (l : Launch) (p0 : Int32) (P : Int32 → Prop) (hw : wp_X1_satOf p0 P) : Met l yX1_satOf wX1_satOf rm_X1_satOf (xP0 [.int p0]) (vp_Si P) 0 0 (fun _ => False) := by
  refine Met.ofW (cc := cX1_satOf) (maxL := 4) (ret := (some .int)) (by decide) rfl ?_
  intro p e s m args below meth c s₁ B hml hv
  obtain ⟨hargs, -⟩ := hv
  have hx := B.exec
  have hb := B.bytes
  have hr := B.returns
  have hts := atoms_spec (ws := wX1_satOf) B.pre
  have hown : s.vm.findClass RX1 = some m.cls := findClass_of_methodNamed B.named
  have hlocks := B.notSynchronized
  have hl := lv_entry ([.int p0]) (n := 4) (Nat.le_of_ble_eq_true rfl)
  rw [show entryFrame m args 4 = entryFrame m (([.int p0] : List Value).toArray) 4 from by rw [hargs], lg_entry_eq]
  generalize (lg_sl ([.int p0]) ++ List.replicate (4 - (lg_sl ([.int p0])).length) Slot.unset).toArray = ls at hl ⊢
  have hl : lv_has ls 4 [(0, .int p0)] := hl
  refine lv_iload_n hx hb dX1_satOf_0 rfl (lv_at hl 0 rfl) ?_
  refine lv_iconst (v := 0) hx hb dX1_satOf_1 (by decide) ?_
  refine vp_callSi (va_Run.run (va_runS (As := [.int p0, .int 0]) (rest := []) ⟨hx, hb, hml, hown, hts⟩ (c_X2_bandOf l p0 0 _ hw) (gcS 2 hts m320 m343 m319 m30 rfl rfl (by decide +kernel) ⟨Nat.le_of_ble_eq_true rfl, Nat.le_of_ble_eq_true rfl⟩) ⟨xbl0, fun U hU hW => ⟨rfl, trivial⟩⟩ rfl rfl hl.1 rfl (lv_room (Nat.le_of_ble_eq_true rfl)) dX1_satOf_2 ⟨Nat.le_of_ble_eq_true rfl, Nat.le_of_ble_eq_true rfl⟩)) (fun r1 hw => ?_)
  refine lv_istore_n (lv' := [(1, .int r1), (0, .int p0)]) hx hb dX1_satOf_5 rfl hl (by decide) rfl (fun ls hl => ?_)
  refine lv_iload_n hx hb dX1_satOf_6 rfl (lv_at hl 1 rfl) ?_
  refine lv_iconst (v := 1) hx hb dX1_satOf_7 (by decide) ?_
  refine vp_callSi (va_Run.run (va_runS (As := [.int p0, .int 1]) (rest := []) ⟨hx, hb, hml, hown, hts⟩ (c_X2_bandOf l p0 1 _ hw) (gcS 2 hts m320 m343 m319 m30 rfl rfl (by decide +kernel) ⟨Nat.le_of_ble_eq_true rfl, Nat.le_of_ble_eq_true rfl⟩) ⟨xbl0, fun U hU hW => ⟨rfl, trivial⟩⟩ rfl rfl hl.1 rfl (lv_room (Nat.le_of_ble_eq_true rfl)) dX1_satOf_8 ⟨Nat.le_of_ble_eq_true rfl, Nat.le_of_ble_eq_true rfl⟩)) (fun r2 hw => ?_)
  refine lv_istore_n (lv' := [(2, .int r2), (1, .int r1), (0, .int p0)]) hx hb dX1_satOf_11 rfl hl (by decide) rfl (fun ls hl => ?_)
  refine lv_iload_n hx hb dX1_satOf_12 rfl (lv_at hl 2 rfl) ?_
  refine lv_iconst (v := 2) hx hb dX1_satOf_13 (by decide) ?_
  refine vp_callSi (va_Run.run (va_runS (As := [.int p0, .int 2]) (rest := []) ⟨hx, hb, hml, hown, hts⟩ (c_X2_bandOf l p0 2 _ hw) (gcS 2 hts m320 m343 m319 m30 rfl rfl (by decide +kernel) ⟨Nat.le_of_ble_eq_true rfl, Nat.le_of_ble_eq_true rfl⟩) ⟨xbl0, fun U hU hW => ⟨rfl, trivial⟩⟩ rfl rfl hl.1 rfl (lv_room (Nat.le_of_ble_eq_true rfl)) dX1_satOf_14 ⟨Nat.le_of_ble_eq_true rfl, Nat.le_of_ble_eq_true rfl⟩)) (fun r3 hw => ?_)
  refine lv_istore_n (lv' := [(3, .int r3), (2, .int r2), (1, .int r1), (0, .int p0)]) hx hb dX1_satOf_17 rfl hl (by decide) rfl (fun ls hl => ?_)
  refine lv_iload_n hx hb dX1_satOf_18 rfl (lv_at hl 2 rfl) ?_
  refine lv_iload_n hx hb dX1_satOf_19 rfl (lv_at hl 1 rfl) ?_
  refine lv_iload_n hx hb dX1_satOf_20 rfl (lv_at hl 0 rfl) ?_
  refine vp_callSi (va_Run.run (va_runS (As := [.int r1, .int r2, .int r3]) (rest := []) ⟨hx, hb, hml, hown, hts⟩ (c_X1_mostOf l r1 r2 r3 _ hw) (gcS 3 hts m346 m344 m345 m32 rfl rfl (by decide +kernel) ⟨Nat.le_of_ble_eq_true rfl, Nat.le_of_ble_eq_true rfl⟩) ⟨xbl0, fun U hU hW => ⟨rfl, trivial⟩⟩ rfl rfl hl.1 rfl (lv_room (Nat.le_of_ble_eq_true rfl)) dX1_satOf_21 ⟨Nat.le_of_ble_eq_true rfl, Nat.le_of_ble_eq_true rfl⟩)) (fun r4 hw => ?_)
  refine lv_iload_n hx hb dX1_satOf_24 rfl (lv_at hl 2 rfl) ?_
  refine lv_iload_n hx hb dX1_satOf_25 rfl (lv_at hl 1 rfl) ?_
  refine lv_iload_n hx hb dX1_satOf_26 rfl (lv_at hl 0 rfl) ?_
  refine vp_callSi (va_Run.run (va_runS (As := [.int r1, .int r2, .int r3]) (rest := [.int r4]) ⟨hx, hb, hml, hown, hts⟩ (c_X1_leastOf l r1 r2 r3 _ hw) (gcS 3 hts m350 m348 m349 m32 rfl rfl (by decide +kernel) ⟨Nat.le_of_ble_eq_true rfl, Nat.le_of_ble_eq_true rfl⟩) ⟨xbl0, fun U hU hW => ⟨rfl, trivial⟩⟩ rfl rfl hl.1 rfl (lv_room (Nat.le_of_ble_eq_true rfl)) dX1_satOf_27 ⟨Nat.le_of_ble_eq_true rfl, Nat.le_of_ble_eq_true rfl⟩)) (fun r5 hw => ?_)
  refine lv_isub hx hb dX1_satOf_30 ?_
  exact W.iret hx hb hr (fun t ht hW => ⟨_, rfl, hw, ht⟩) (fun q h => by cases h) dX1_satOf_31
abbrev wX1_withSat : List Cond := Cond.code yX1_withSat cX1_withSat 7 (some .int) :: gG
def wp_X1_withSat (p0 : Int32) (p1 : Int32) (P : Int32 → Prop) : Prop :=
  wp_X1_satOf p0 (fun r1 => ((0 < r1 → wp_X2_bandOf p0 0 (fun r2 => wp_X2_bandOf p0 1 (fun r3 => wp_X2_bandOf p0 2 (fun r4 => wp_X1_leastOf r2 r3 r4 (fun r5 => (¬ r1 = 0 ∧ (¬ r1 = 0 ∧ (¬ r1 = 0 ∧ wp_X2_packed (((r2 - r5) * p1) / r1) (((r3 - r5) * p1) / r1) (((r4 - r5) * p1) / r1) (fun r6 => P r6))))))))) ∧
  (¬ 0 < r1 → P 0)))
abbrev rm_X1_withSat : Room := { frames := 3, cells := 0, slots := 0, locals := 66 }
set_option maxHeartbeats 4000000 in
set_option maxRecDepth 100000 in
theorem c_X1_withSat (l : Launch) (p0 : Int32) (p1 : Int32) (P : Int32 → Prop) (hw : wp_X1_withSat p0 p1 P) : Met l yX1_withSat wX1_withSat rm_X1_withSat (xP0 [.int p0, .int p1]) (vp_Si P) 0 0 (fun _ => False) := by
  refine Met.ofW (cc := cX1_withSat) (maxL := 7) (ret := (some .int)) (by decide) rfl ?_
  intro p e s m args below meth c s₁ B hml hv
  obtain ⟨hargs, -⟩ := hv
  have hx := B.exec
  have hb := B.bytes
  have hr := B.returns
  have hts := atoms_spec (ws := wX1_withSat) B.pre
  have hown : s.vm.findClass RX1 = some m.cls := findClass_of_methodNamed B.named
  have hlocks := B.notSynchronized
  have hl := lv_entry ([.int p0, .int p1]) (n := 7) (Nat.le_of_ble_eq_true rfl)
  rw [show entryFrame m args 7 = entryFrame m (([.int p0, .int p1] : List Value).toArray) 7 from by rw [hargs], lg_entry_eq]
  generalize (lg_sl ([.int p0, .int p1]) ++ List.replicate (7 - (lg_sl ([.int p0, .int p1])).length) Slot.unset).toArray = ls at hl ⊢
  have hl : lv_has ls 7 [(0, .int p0), (1, .int p1)] := hl
  refine lv_iload_n hx hb dX1_withSat_0 rfl (lv_at hl 0 rfl) ?_
  refine vp_callSi (va_Run.run (va_runS (As := [.int p0]) (rest := []) ⟨hx, hb, hml, hown, hts⟩ (c_X1_satOf l p0 _ hw) (gcS 1 hts m342 m340 m341 m32 rfl rfl (by decide +kernel) ⟨Nat.le_of_ble_eq_true rfl, Nat.le_of_ble_eq_true rfl⟩) ⟨xbl0, fun U hU hW => ⟨rfl, trivial⟩⟩ rfl rfl hl.1 rfl (lv_room (Nat.le_of_ble_eq_true rfl)) dX1_withSat_1 ⟨Nat.le_of_ble_eq_true rfl, Nat.le_of_ble_eq_true rfl⟩)) (fun r1 hw => ?_)
  refine lv_istore_n (lv' := [(2, .int r1), (0, .int p0), (1, .int p1)]) hx hb dX1_withSat_4 rfl hl (by decide) rfl (fun ls hl => ?_)
  refine lv_iload_n hx hb dX1_withSat_5 rfl (lv_at hl 0 rfl) ?_
  refine lv_if_gt (tgt := 11) hx hb dX1_withSat_6 (by decide) (fun c7 => ?_) (fun c7 => ?_)
  · replace hw := And.left hw c7
    refine lv_iload_n hx hb dX1_withSat_11 rfl (lv_at hl 1 rfl) ?_
    refine lv_iconst (v := 0) hx hb dX1_withSat_12 (by decide) ?_
    refine vp_callSi (va_Run.run (va_runS (As := [.int p0, .int 0]) (rest := []) ⟨hx, hb, hml, hown, hts⟩ (c_X2_bandOf l p0 0 _ hw) (gcS 2 hts m320 m343 m319 m30 rfl rfl (by decide +kernel) ⟨Nat.le_of_ble_eq_true rfl, Nat.le_of_ble_eq_true rfl⟩) ⟨xbl0, fun U hU hW => ⟨rfl, trivial⟩⟩ rfl rfl hl.1 rfl (lv_room (Nat.le_of_ble_eq_true rfl)) dX1_withSat_13 ⟨Nat.le_of_ble_eq_true rfl, Nat.le_of_ble_eq_true rfl⟩)) (fun r2 hw => ?_)
    refine lv_istore_n (lv' := [(3, .int r2), (2, .int r1), (0, .int p0), (1, .int p1)]) hx hb dX1_withSat_16 rfl hl (by decide) rfl (fun ls hl => ?_)
    refine lv_iload_n hx hb dX1_withSat_17 rfl (lv_at hl 2 rfl) ?_
    refine lv_iconst (v := 1) hx hb dX1_withSat_18 (by decide) ?_
    refine vp_callSi (va_Run.run (va_runS (As := [.int p0, .int 1]) (rest := []) ⟨hx, hb, hml, hown, hts⟩ (c_X2_bandOf l p0 1 _ hw) (gcS 2 hts m320 m343 m319 m30 rfl rfl (by decide +kernel) ⟨Nat.le_of_ble_eq_true rfl, Nat.le_of_ble_eq_true rfl⟩) ⟨xbl0, fun U hU hW => ⟨rfl, trivial⟩⟩ rfl rfl hl.1 rfl (lv_room (Nat.le_of_ble_eq_true rfl)) dX1_withSat_19 ⟨Nat.le_of_ble_eq_true rfl, Nat.le_of_ble_eq_true rfl⟩)) (fun r3 hw => ?_)
    refine lv_istore (lv' := [(4, .int r3), (3, .int r2), (2, .int r1), (0, .int p0), (1, .int p1)]) hx hb dX1_withSat_22 hl (by decide) rfl (fun ls hl => ?_)
    refine lv_iload_n hx hb dX1_withSat_24 rfl (lv_at hl 3 rfl) ?_
    refine lv_iconst (v := 2) hx hb dX1_withSat_25 (by decide) ?_
    refine vp_callSi (va_Run.run (va_runS (As := [.int p0, .int 2]) (rest := []) ⟨hx, hb, hml, hown, hts⟩ (c_X2_bandOf l p0 2 _ hw) (gcS 2 hts m320 m343 m319 m30 rfl rfl (by decide +kernel) ⟨Nat.le_of_ble_eq_true rfl, Nat.le_of_ble_eq_true rfl⟩) ⟨xbl0, fun U hU hW => ⟨rfl, trivial⟩⟩ rfl rfl hl.1 rfl (lv_room (Nat.le_of_ble_eq_true rfl)) dX1_withSat_26 ⟨Nat.le_of_ble_eq_true rfl, Nat.le_of_ble_eq_true rfl⟩)) (fun r4 hw => ?_)
    refine lv_istore (lv' := [(5, .int r4), (4, .int r3), (3, .int r2), (2, .int r1), (0, .int p0), (1, .int p1)]) hx hb dX1_withSat_29 hl (by decide) rfl (fun ls hl => ?_)
    refine lv_iload_n hx hb dX1_withSat_31 rfl (lv_at hl 2 rfl) ?_
    refine lv_iload hx hb dX1_withSat_32 (lv_at hl 1 rfl) ?_
    refine lv_iload hx hb dX1_withSat_34 (lv_at hl 0 rfl) ?_
    refine vp_callSi (va_Run.run (va_runS (As := [.int r2, .int r3, .int r4]) (rest := []) ⟨hx, hb, hml, hown, hts⟩ (c_X1_leastOf l r2 r3 r4 _ hw) (gcS 3 hts m350 m348 m349 m32 rfl rfl (by decide +kernel) ⟨Nat.le_of_ble_eq_true rfl, Nat.le_of_ble_eq_true rfl⟩) ⟨xbl0, fun U hU hW => ⟨rfl, trivial⟩⟩ rfl rfl hl.1 rfl (lv_room (Nat.le_of_ble_eq_true rfl)) dX1_withSat_36 ⟨Nat.le_of_ble_eq_true rfl, Nat.le_of_ble_eq_true rfl⟩)) (fun r5 hw => ?_)
    refine lv_istore (lv' := [(6, .int r5), (5, .int r4), (4, .int r3), (3, .int r2), (2, .int r1), (0, .int p0), (1, .int p1)]) hx hb dX1_withSat_39 hl (by decide) rfl (fun ls hl => ?_)
    refine lv_iload_n hx hb dX1_withSat_41 rfl (lv_at hl 3 rfl) ?_
    refine lv_iload hx hb dX1_withSat_42 (lv_at hl 0 rfl) ?_
    refine lv_isub hx hb dX1_withSat_44 ?_
    refine lv_iload_n hx hb dX1_withSat_45 rfl (lv_at hl 6 rfl) ?_
    refine lv_imul hx hb dX1_withSat_46 ?_
    refine lv_iload_n hx hb dX1_withSat_47 rfl (lv_at hl 4 rfl) ?_
    refine lv_idiv hx hb dX1_withSat_48 (And.left hw) ?_
    replace hw := And.right hw
    refine lv_iload hx hb dX1_withSat_49 (lv_at hl 2 rfl) ?_
    refine lv_iload hx hb dX1_withSat_51 (lv_at hl 0 rfl) ?_
    refine lv_isub hx hb dX1_withSat_53 ?_
    refine lv_iload_n hx hb dX1_withSat_54 rfl (lv_at hl 6 rfl) ?_
    refine lv_imul hx hb dX1_withSat_55 ?_
    refine lv_iload_n hx hb dX1_withSat_56 rfl (lv_at hl 4 rfl) ?_
    refine lv_idiv hx hb dX1_withSat_57 (And.left hw) ?_
    replace hw := And.right hw
    refine lv_iload hx hb dX1_withSat_58 (lv_at hl 1 rfl) ?_
    refine lv_iload hx hb dX1_withSat_60 (lv_at hl 0 rfl) ?_
    refine lv_isub hx hb dX1_withSat_62 ?_
    refine lv_iload_n hx hb dX1_withSat_63 rfl (lv_at hl 6 rfl) ?_
    refine lv_imul hx hb dX1_withSat_64 ?_
    refine lv_iload_n hx hb dX1_withSat_65 rfl (lv_at hl 4 rfl) ?_
    refine lv_idiv hx hb dX1_withSat_66 (And.left hw) ?_
    replace hw := And.right hw
    refine vp_callSi (va_Run.run (va_runS (As := [.int (((r2 - r5) * p1) / r1), .int (((r3 - r5) * p1) / r1), .int (((r4 - r5) * p1) / r1)]) (rest := []) ⟨hx, hb, hml, hown, hts⟩ (c_X2_packed l (((r2 - r5) * p1) / r1) (((r3 - r5) * p1) / r1) (((r4 - r5) * p1) / r1) _ hw) (gcS 3 hts m328 m355 m327 m30 rfl rfl (by decide +kernel) ⟨Nat.le_of_ble_eq_true rfl, Nat.le_of_ble_eq_true rfl⟩) ⟨xbl0, fun U hU hW => ⟨rfl, trivial⟩⟩ rfl rfl hl.1 rfl (lv_room (Nat.le_of_ble_eq_true rfl)) dX1_withSat_67 ⟨Nat.le_of_ble_eq_true rfl, Nat.le_of_ble_eq_true rfl⟩)) (fun r6 hw => ?_)
    exact W.iret hx hb hr (fun t ht hW => ⟨_, rfl, hw, ht⟩) (fun q h => by cases h) dX1_withSat_70
  · replace hw := And.right hw c7
    refine lv_iconst (v := 0) hx hb dX1_withSat_9 (by decide) ?_
    exact W.iret hx hb hr (fun t ht hW => ⟨_, rfl, hw, ht⟩) (fun q h => by cases h) dX1_withSat_10
abbrev wX1_drawnIn : List Cond := Cond.code yX1_drawnIn cX1_drawnIn 5 (some .int) :: gG
def wp_X1_drawnIn_60 (P : Int32 → Prop) (x4 : Int32) : Prop :=
  wp_X2_within x4 (fun r1 => P r1)
def wp_X1_drawnIn_28 (P : Int32 → Prop) (x1 : Int32) (x3 : Int32) (x4 : Int32) : Prop :=
  ((x3 ≤ 255 → wp_X1_drawnIn_60 P x4) ∧
  (¬ x3 ≤ 255 → ((x3 ≤ x1 → wp_X1_drawnIn_60 P x4) ∧
  (¬ x3 ≤ x1 → wp_J9_floorDiv ((x4 - x1) * (255 - x1)) (x3 - x1) (fun r2 => ∀ v3 : Int32, v3 = (x1 + r2) → wp_X1_drawnIn_60 P v3)))))
def wp_X1_drawnIn (p0 : Int32) (p1 : Int32) (p2 : Int32) (p3 : Int32) (P : Int32 → Prop) : Prop :=
  ((0 ≤ p2 → wp_X1_drawnIn_28 P p1 p3 p0) ∧
  (¬ 0 ≤ p2 → ((p1 ≤ p2 → wp_X1_drawnIn_28 P p1 p3 p0) ∧
  (¬ p1 ≤ p2 → wp_J9_floorDiv ((p0 - p1) * p1) (p1 - p2) (fun r6 => ∀ v7 : Int32, v7 = (p1 + r6) → wp_X1_drawnIn_28 P p1 p3 v7)))))
abbrev rm_X1_drawnIn : Room := { frames := 2, cells := 0, slots := 0, locals := 41 }
set_option maxHeartbeats 4000000 in
set_option maxRecDepth 100000 in
theorem c_X1_drawnIn (l : Launch) (p0 : Int32) (p1 : Int32) (p2 : Int32) (p3 : Int32) (P : Int32 → Prop) (hw : wp_X1_drawnIn p0 p1 p2 p3 P) : Met l yX1_drawnIn wX1_drawnIn rm_X1_drawnIn (xP0 [.int p0, .int p1, .int p2, .int p3]) (vp_Si P) 0 0 (fun _ => False) := by
  refine Met.ofW (cc := cX1_drawnIn) (maxL := 5) (ret := (some .int)) (by decide) rfl ?_
  intro p e s m args below meth c s₁ B hml hv
  obtain ⟨hargs, -⟩ := hv
  have hx := B.exec
  have hb := B.bytes
  have hr := B.returns
  have hts := atoms_spec (ws := wX1_drawnIn) B.pre
  have hown : s.vm.findClass RX1 = some m.cls := findClass_of_methodNamed B.named
  have hlocks := B.notSynchronized
  have J60 : ∀ (x4 : Int32), wp_X1_drawnIn_60 P x4 → ∀ (ls : Array Slot), lv_has ls 5 [(4, .int x4)] → W p l e (headSpec wX1_drawnIn rm_X1_drawnIn).room s m args below meth c s.heap [] 0 0 (MQ below (vp_Si P) args s 0 0 (fun _ => False)) (F0 m 60 ls []) := by
    intro  x4 hw ls hl
    refine lv_iload hx hb dX1_drawnIn_60 (lv_at hl 0 rfl) ?_
    refine vp_callSi (va_Run.run (va_runS (As := [.int x4]) (rest := []) ⟨hx, hb, hml, hown, hts⟩ (c_X2_within l x4 _ hw) (gcS 1 hts m323 m372 m322 m30 rfl rfl (by decide +kernel) ⟨Nat.le_of_ble_eq_true rfl, Nat.le_of_ble_eq_true rfl⟩) ⟨xbl0, fun U hU hW => ⟨rfl, trivial⟩⟩ rfl rfl hl.1 rfl (lv_room (Nat.le_of_ble_eq_true rfl)) dX1_drawnIn_62 ⟨Nat.le_of_ble_eq_true rfl, Nat.le_of_ble_eq_true rfl⟩)) (fun r1 hw => ?_)
    exact W.iret hx hb hr (fun t ht hW => ⟨_, rfl, hw, ht⟩) (fun q h => by cases h) dX1_drawnIn_65
  have J28 : ∀ (x1 : Int32) (x3 : Int32) (x4 : Int32), wp_X1_drawnIn_28 P x1 x3 x4 → ∀ (ls : Array Slot), lv_has ls 5 [(1, .int x1), (3, .int x3), (4, .int x4)] → W p l e (headSpec wX1_drawnIn rm_X1_drawnIn).room s m args below meth c s.heap [] 0 0 (MQ below (vp_Si P) args s 0 0 (fun _ => False)) (F0 m 28 ls []) := by
    intro  x1 x3 x4 hw ls hl
    refine lv_iload_n hx hb dX1_drawnIn_28 rfl (lv_at hl 1 rfl) ?_
    refine lv_sipush (v := 255) hx hb dX1_drawnIn_29 (by decide) ?_
    refine lv_icmp_le (tgt := 60) hx hb dX1_drawnIn_32 (by decide) (fun c5 => ?_) (fun c5 => ?_)
    · replace hw := And.left hw c5
      exact J60 _ hw _ (lv_sub hl [2] rfl)
    · replace hw := And.right hw c5
      refine lv_iload_n hx hb dX1_drawnIn_35 rfl (lv_at hl 1 rfl) ?_
      refine lv_iload_n hx hb dX1_drawnIn_36 rfl (lv_at hl 0 rfl) ?_
      refine lv_icmp_le (tgt := 60) hx hb dX1_drawnIn_37 (by decide) (fun c4 => ?_) (fun c4 => ?_)
      · replace hw := And.left hw c4
        exact J60 _ hw _ (lv_sub hl [2] rfl)
      · replace hw := And.right hw c4
        refine lv_iload_n hx hb dX1_drawnIn_40 rfl (lv_at hl 0 rfl) ?_
        refine lv_iload hx hb dX1_drawnIn_41 (lv_at hl 2 rfl) ?_
        refine lv_iload_n hx hb dX1_drawnIn_43 rfl (lv_at hl 0 rfl) ?_
        refine lv_isub hx hb dX1_drawnIn_44 ?_
        refine lv_sipush (v := 255) hx hb dX1_drawnIn_45 (by decide) ?_
        refine lv_iload_n hx hb dX1_drawnIn_48 rfl (lv_at hl 0 rfl) ?_
        refine lv_isub hx hb dX1_drawnIn_49 ?_
        refine lv_imul hx hb dX1_drawnIn_50 ?_
        refine lv_iload_n hx hb dX1_drawnIn_51 rfl (lv_at hl 1 rfl) ?_
        refine lv_iload_n hx hb dX1_drawnIn_52 rfl (lv_at hl 0 rfl) ?_
        refine lv_isub hx hb dX1_drawnIn_53 ?_
        refine vp_callSi (va_Run.run (va_runS (As := [.int ((x4 - x1) * (255 - x1)), .int (x3 - x1)]) (rest := [.int x1]) ⟨hx, hb, hml, hown, hts⟩ (c_J9_floorDiv l ((x4 - x1) * (255 - x1)) (x3 - x1) _ hw) (gcS 2 hts m364 m371 m363 m22 rfl rfl (by decide +kernel) ⟨Nat.le_of_ble_eq_true rfl, Nat.le_of_ble_eq_true rfl⟩) ⟨xbl0, fun U hU hW => ⟨rfl, trivial⟩⟩ rfl rfl hl.1 rfl (lv_room (Nat.le_of_ble_eq_true rfl)) dX1_drawnIn_54 ⟨Nat.le_of_ble_eq_true rfl, Nat.le_of_ble_eq_true rfl⟩)) (fun r2 hw => ?_)
        refine lv_iadd hx hb dX1_drawnIn_57 ?_
        refine lv_topi (fun v3 e_v3 => ?_)
        replace hw := hw v3 e_v3
        refine lv_istore (lv' := [(4, .int v3), (1, .int x1), (3, .int x3)]) hx hb dX1_drawnIn_58 hl (by decide) rfl (fun ls hl => ?_)
        exact J60 _ hw _ (lv_sub hl [0] rfl)
  have hl := lv_entry ([.int p0, .int p1, .int p2, .int p3]) (n := 5) (Nat.le_of_ble_eq_true rfl)
  rw [show entryFrame m args 5 = entryFrame m (([.int p0, .int p1, .int p2, .int p3] : List Value).toArray) 5 from by rw [hargs], lg_entry_eq]
  generalize (lg_sl ([.int p0, .int p1, .int p2, .int p3]) ++ List.replicate (5 - (lg_sl ([.int p0, .int p1, .int p2, .int p3])).length) Slot.unset).toArray = ls at hl ⊢
  have hl : lv_has ls 5 [(0, .int p0), (1, .int p1), (2, .int p2), (3, .int p3)] := hl
  refine lv_iload_n hx hb dX1_drawnIn_0 rfl (lv_at hl 0 rfl) ?_
  refine lv_istore (lv' := [(4, .int p0), (0, .int p0), (1, .int p1), (2, .int p2), (3, .int p3)]) hx hb dX1_drawnIn_1 hl (by decide) rfl (fun ls hl => ?_)
  refine lv_iload_n hx hb dX1_drawnIn_3 rfl (lv_at hl 3 rfl) ?_
  refine lv_if_ge (tgt := 28) hx hb dX1_drawnIn_4 (by decide) (fun c9 => ?_) (fun c9 => ?_)
  · replace hw := And.left hw c9
    exact J28 _ _ _ hw _ (lv_sub hl [2, 4, 0] rfl)
  · replace hw := And.right hw c9
    refine lv_iload_n hx hb dX1_drawnIn_7 rfl (lv_at hl 3 rfl) ?_
    refine lv_iload_n hx hb dX1_drawnIn_8 rfl (lv_at hl 2 rfl) ?_
    refine lv_icmp_ge (tgt := 28) hx hb dX1_drawnIn_9 (by decide) (fun c8 => ?_) (fun c8 => ?_)
    · replace hw := And.left hw c8
      exact J28 _ _ _ hw _ (lv_sub hl [2, 4, 0] rfl)
    · replace hw := And.right hw c8
      refine lv_iload_n hx hb dX1_drawnIn_12 rfl (lv_at hl 2 rfl) ?_
      refine lv_iload hx hb dX1_drawnIn_13 (lv_at hl 0 rfl) ?_
      refine lv_iload_n hx hb dX1_drawnIn_15 rfl (lv_at hl 2 rfl) ?_
      refine lv_isub hx hb dX1_drawnIn_16 ?_
      refine lv_iload_n hx hb dX1_drawnIn_17 rfl (lv_at hl 2 rfl) ?_
      refine lv_imul hx hb dX1_drawnIn_18 ?_
      refine lv_iload_n hx hb dX1_drawnIn_19 rfl (lv_at hl 2 rfl) ?_
      refine lv_iload_n hx hb dX1_drawnIn_20 rfl (lv_at hl 3 rfl) ?_
      refine lv_isub hx hb dX1_drawnIn_21 ?_
      refine vp_callSi (va_Run.run (va_runS (As := [.int ((p0 - p1) * p1), .int (p1 - p2)]) (rest := [.int p1]) ⟨hx, hb, hml, hown, hts⟩ (c_J9_floorDiv l ((p0 - p1) * p1) (p1 - p2) _ hw) (gcS 2 hts m364 m371 m363 m22 rfl rfl (by decide +kernel) ⟨Nat.le_of_ble_eq_true rfl, Nat.le_of_ble_eq_true rfl⟩) ⟨xbl0, fun U hU hW => ⟨rfl, trivial⟩⟩ rfl rfl hl.1 rfl (lv_room (Nat.le_of_ble_eq_true rfl)) dX1_drawnIn_22 ⟨Nat.le_of_ble_eq_true rfl, Nat.le_of_ble_eq_true rfl⟩)) (fun r6 hw => ?_)
      refine lv_iadd hx hb dX1_drawnIn_25 ?_
      refine lv_topi (fun v7 e_v7 => ?_)
      replace hw := hw v7 e_v7
      refine lv_istore (lv' := [(4, .int v7), (0, .int p0), (1, .int p1), (2, .int p2), (3, .int p3)]) hx hb dX1_drawnIn_26 hl (by decide) rfl (fun ls hl => ?_)
      exact J28 _ _ _ hw _ (lv_sub hl [2, 4, 0] rfl)
abbrev wX1_withLum : List Cond := Cond.code yX1_withLum cX1_withLum 9 (some .int) :: gG
def wp_X1_withLum (p0 : Int32) (p1 : Int32) (P : Int32 → Prop) : Prop :=
  wp_X1_lumOf p0 (fun r1 => ∀ v2 : Int32, v2 = (p1 - r1) → wp_X2_bandOf p0 0 (fun r3 => ∀ v4 : Int32, v4 = (r3 + v2) → wp_X2_bandOf p0 1 (fun r5 => ∀ v6 : Int32, v6 = (r5 + v2) → wp_X2_bandOf p0 2 (fun r7 => ∀ v8 : Int32, v8 = (r7 + v2) → wp_X2_lum v4 v6 v8 (fun r9 => wp_X1_leastOf v4 v6 v8 (fun r10 => wp_X1_mostOf v4 v6 v8 (fun r11 => wp_X1_drawnIn v4 r9 r10 r11 (fun r12 => wp_X1_drawnIn v6 r9 r10 r11 (fun r13 => wp_X1_drawnIn v8 r9 r10 r11 (fun r14 => wp_X2_packed r12 r13 r14 (fun r15 => P r15)))))))))))
abbrev rm_X1_withLum : Room := { frames := 3, cells := 0, slots := 0, locals := 65 }
set_option maxHeartbeats 4000000 in
set_option maxRecDepth 100000 in
theorem c_X1_withLum (l : Launch) (p0 : Int32) (p1 : Int32) (P : Int32 → Prop) (hw : wp_X1_withLum p0 p1 P) : Met l yX1_withLum wX1_withLum rm_X1_withLum (xP0 [.int p0, .int p1]) (vp_Si P) 0 0 (fun _ => False) := by
  refine Met.ofW (cc := cX1_withLum) (maxL := 9) (ret := (some .int)) (by decide) rfl ?_
  intro p e s m args below meth c s₁ B hml hv
  obtain ⟨hargs, -⟩ := hv
  have hx := B.exec
  have hb := B.bytes
  have hr := B.returns
  have hts := atoms_spec (ws := wX1_withLum) B.pre
  have hown : s.vm.findClass RX1 = some m.cls := findClass_of_methodNamed B.named
  have hlocks := B.notSynchronized
  have hl := lv_entry ([.int p0, .int p1]) (n := 9) (Nat.le_of_ble_eq_true rfl)
  rw [show entryFrame m args 9 = entryFrame m (([.int p0, .int p1] : List Value).toArray) 9 from by rw [hargs], lg_entry_eq]
  generalize (lg_sl ([.int p0, .int p1]) ++ List.replicate (9 - (lg_sl ([.int p0, .int p1])).length) Slot.unset).toArray = ls at hl ⊢
  have hl : lv_has ls 9 [(0, .int p0), (1, .int p1)] := hl
  refine lv_iload_n hx hb dX1_withLum_0 rfl (lv_at hl 1 rfl) ?_
  refine lv_iload_n hx hb dX1_withLum_1 rfl (lv_at hl 0 rfl) ?_
  refine vp_callSi (va_Run.run (va_runS (As := [.int p0]) (rest := [.int p1]) ⟨hx, hb, hml, hown, hts⟩ (c_X1_lumOf l p0 _ hw) (gcS 1 hts m358 m356 m357 m32 rfl rfl (by decide +kernel) ⟨Nat.le_of_ble_eq_true rfl, Nat.le_of_ble_eq_true rfl⟩) ⟨xbl0, fun U hU hW => ⟨rfl, trivial⟩⟩ rfl rfl hl.1 rfl (lv_room (Nat.le_of_ble_eq_true rfl)) dX1_withLum_2 ⟨Nat.le_of_ble_eq_true rfl, Nat.le_of_ble_eq_true rfl⟩)) (fun r1 hw => ?_)
  refine lv_isub hx hb dX1_withLum_5 ?_
  refine lv_topi (fun v2 e_v2 => ?_)
  replace hw := hw v2 e_v2
  refine lv_istore_n (lv' := [(2, .int v2), (0, .int p0), (1, .int p1)]) hx hb dX1_withLum_6 rfl hl (by decide) rfl (fun ls hl => ?_)
  refine lv_iload_n hx hb dX1_withLum_7 rfl (lv_at hl 1 rfl) ?_
  refine lv_iconst (v := 0) hx hb dX1_withLum_8 (by decide) ?_
  refine vp_callSi (va_Run.run (va_runS (As := [.int p0, .int 0]) (rest := []) ⟨hx, hb, hml, hown, hts⟩ (c_X2_bandOf l p0 0 _ hw) (gcS 2 hts m320 m343 m319 m30 rfl rfl (by decide +kernel) ⟨Nat.le_of_ble_eq_true rfl, Nat.le_of_ble_eq_true rfl⟩) ⟨xbl0, fun U hU hW => ⟨rfl, trivial⟩⟩ rfl rfl hl.1 rfl (lv_room (Nat.le_of_ble_eq_true rfl)) dX1_withLum_9 ⟨Nat.le_of_ble_eq_true rfl, Nat.le_of_ble_eq_true rfl⟩)) (fun r3 hw => ?_)
  refine lv_iload_n hx hb dX1_withLum_12 rfl (lv_at hl 0 rfl) ?_
  refine lv_iadd hx hb dX1_withLum_13 ?_
  refine lv_topi (fun v4 e_v4 => ?_)
  replace hw := hw v4 e_v4
  refine lv_istore_n (lv' := [(3, .int v4), (2, .int v2), (0, .int p0), (1, .int p1)]) hx hb dX1_withLum_14 rfl hl (by decide) rfl (fun ls hl => ?_)
  refine lv_iload_n hx hb dX1_withLum_15 rfl (lv_at hl 2 rfl) ?_
  refine lv_iconst (v := 1) hx hb dX1_withLum_16 (by decide) ?_
  refine vp_callSi (va_Run.run (va_runS (As := [.int p0, .int 1]) (rest := []) ⟨hx, hb, hml, hown, hts⟩ (c_X2_bandOf l p0 1 _ hw) (gcS 2 hts m320 m343 m319 m30 rfl rfl (by decide +kernel) ⟨Nat.le_of_ble_eq_true rfl, Nat.le_of_ble_eq_true rfl⟩) ⟨xbl0, fun U hU hW => ⟨rfl, trivial⟩⟩ rfl rfl hl.1 rfl (lv_room (Nat.le_of_ble_eq_true rfl)) dX1_withLum_17 ⟨Nat.le_of_ble_eq_true rfl, Nat.le_of_ble_eq_true rfl⟩)) (fun r5 hw => ?_)
  refine lv_iload_n hx hb dX1_withLum_20 rfl (lv_at hl 1 rfl) ?_
  refine lv_iadd hx hb dX1_withLum_21 ?_
  refine lv_topi (fun v6 e_v6 => ?_)
  replace hw := hw v6 e_v6
  refine lv_istore (lv' := [(4, .int v6), (3, .int v4), (2, .int v2), (0, .int p0), (1, .int p1)]) hx hb dX1_withLum_22 hl (by decide) rfl (fun ls hl => ?_)
  refine lv_iload_n hx hb dX1_withLum_24 rfl (lv_at hl 3 rfl) ?_
  refine lv_iconst (v := 2) hx hb dX1_withLum_25 (by decide) ?_
  refine vp_callSi (va_Run.run (va_runS (As := [.int p0, .int 2]) (rest := []) ⟨hx, hb, hml, hown, hts⟩ (c_X2_bandOf l p0 2 _ hw) (gcS 2 hts m320 m343 m319 m30 rfl rfl (by decide +kernel) ⟨Nat.le_of_ble_eq_true rfl, Nat.le_of_ble_eq_true rfl⟩) ⟨xbl0, fun U hU hW => ⟨rfl, trivial⟩⟩ rfl rfl hl.1 rfl (lv_room (Nat.le_of_ble_eq_true rfl)) dX1_withLum_26 ⟨Nat.le_of_ble_eq_true rfl, Nat.le_of_ble_eq_true rfl⟩)) (fun r7 hw => ?_)
  refine lv_iload_n hx hb dX1_withLum_29 rfl (lv_at hl 2 rfl) ?_
  refine lv_iadd hx hb dX1_withLum_30 ?_
  refine lv_topi (fun v8 e_v8 => ?_)
  replace hw := hw v8 e_v8
  refine lv_istore (lv' := [(5, .int v8), (4, .int v6), (3, .int v4), (2, .int v2), (0, .int p0), (1, .int p1)]) hx hb dX1_withLum_31 hl (by decide) rfl (fun ls hl => ?_)
  refine lv_iload_n hx hb dX1_withLum_33 rfl (lv_at hl 2 rfl) ?_
  refine lv_iload hx hb dX1_withLum_34 (lv_at hl 1 rfl) ?_
  refine lv_iload hx hb dX1_withLum_36 (lv_at hl 0 rfl) ?_
  refine vp_callSi (va_Run.run (va_runS (As := [.int v4, .int v6, .int v8]) (rest := []) ⟨hx, hb, hml, hown, hts⟩ (c_X2_lum l v4 v6 v8 _ hw) (gcS 3 hts m361 m359 m360 m30 rfl rfl (by decide +kernel) ⟨Nat.le_of_ble_eq_true rfl, Nat.le_of_ble_eq_true rfl⟩) ⟨xbl0, fun U hU hW => ⟨rfl, trivial⟩⟩ rfl rfl hl.1 rfl (lv_room (Nat.le_of_ble_eq_true rfl)) dX1_withLum_38 ⟨Nat.le_of_ble_eq_true rfl, Nat.le_of_ble_eq_true rfl⟩)) (fun r9 hw => ?_)
  refine lv_istore (lv' := [(6, .int r9), (5, .int v8), (4, .int v6), (3, .int v4), (2, .int v2), (0, .int p0), (1, .int p1)]) hx hb dX1_withLum_41 hl (by decide) rfl (fun ls hl => ?_)
  refine lv_iload_n hx hb dX1_withLum_43 rfl (lv_at hl 3 rfl) ?_
  refine lv_iload hx hb dX1_withLum_44 (lv_at hl 2 rfl) ?_
  refine lv_iload hx hb dX1_withLum_46 (lv_at hl 1 rfl) ?_
  refine vp_callSi (va_Run.run (va_runS (As := [.int v4, .int v6, .int v8]) (rest := []) ⟨hx, hb, hml, hown, hts⟩ (c_X1_leastOf l v4 v6 v8 _ hw) (gcS 3 hts m350 m348 m349 m32 rfl rfl (by decide +kernel) ⟨Nat.le_of_ble_eq_true rfl, Nat.le_of_ble_eq_true rfl⟩) ⟨xbl0, fun U hU hW => ⟨rfl, trivial⟩⟩ rfl rfl hl.1 rfl (lv_room (Nat.le_of_ble_eq_true rfl)) dX1_withLum_48 ⟨Nat.le_of_ble_eq_true rfl, Nat.le_of_ble_eq_true rfl⟩)) (fun r10 hw => ?_)
  refine lv_istore (lv' := [(7, .int r10), (6, .int r9), (5, .int v8), (4, .int v6), (3, .int v4), (2, .int v2), (0, .int p0), (1, .int p1)]) hx hb dX1_withLum_51 hl (by decide) rfl (fun ls hl => ?_)
  refine lv_iload_n hx hb dX1_withLum_53 rfl (lv_at hl 4 rfl) ?_
  refine lv_iload hx hb dX1_withLum_54 (lv_at hl 3 rfl) ?_
  refine lv_iload hx hb dX1_withLum_56 (lv_at hl 2 rfl) ?_
  refine vp_callSi (va_Run.run (va_runS (As := [.int v4, .int v6, .int v8]) (rest := []) ⟨hx, hb, hml, hown, hts⟩ (c_X1_mostOf l v4 v6 v8 _ hw) (gcS 3 hts m346 m344 m345 m32 rfl rfl (by decide +kernel) ⟨Nat.le_of_ble_eq_true rfl, Nat.le_of_ble_eq_true rfl⟩) ⟨xbl0, fun U hU hW => ⟨rfl, trivial⟩⟩ rfl rfl hl.1 rfl (lv_room (Nat.le_of_ble_eq_true rfl)) dX1_withLum_58 ⟨Nat.le_of_ble_eq_true rfl, Nat.le_of_ble_eq_true rfl⟩)) (fun r11 hw => ?_)
  refine lv_istore (lv' := [(8, .int r11), (7, .int r10), (6, .int r9), (5, .int v8), (4, .int v6), (3, .int v4), (2, .int v2), (0, .int p0), (1, .int p1)]) hx hb dX1_withLum_61 hl (by decide) rfl (fun ls hl => ?_)
  refine lv_iload_n hx hb dX1_withLum_63 rfl (lv_at hl 5 rfl) ?_
  refine lv_iload hx hb dX1_withLum_64 (lv_at hl 2 rfl) ?_
  refine lv_iload hx hb dX1_withLum_66 (lv_at hl 1 rfl) ?_
  refine lv_iload hx hb dX1_withLum_68 (lv_at hl 0 rfl) ?_
  refine vp_callSi (va_Run.run (va_runS (As := [.int v4, .int r9, .int r10, .int r11]) (rest := []) ⟨hx, hb, hml, hown, hts⟩ (c_X1_drawnIn l v4 r9 r10 r11 _ hw) (gcS 4 hts m370 m368 m369 m32 rfl rfl (by decide +kernel) ⟨Nat.le_of_ble_eq_true rfl, Nat.le_of_ble_eq_true rfl⟩) ⟨xbl0, fun U hU hW => ⟨rfl, trivial⟩⟩ rfl rfl hl.1 rfl (lv_room (Nat.le_of_ble_eq_true rfl)) dX1_withLum_70 ⟨Nat.le_of_ble_eq_true rfl, Nat.le_of_ble_eq_true rfl⟩)) (fun r12 hw => ?_)
  refine lv_iload hx hb dX1_withLum_73 (lv_at hl 4 rfl) ?_
  refine lv_iload hx hb dX1_withLum_75 (lv_at hl 2 rfl) ?_
  refine lv_iload hx hb dX1_withLum_77 (lv_at hl 1 rfl) ?_
  refine lv_iload hx hb dX1_withLum_79 (lv_at hl 0 rfl) ?_
  refine vp_callSi (va_Run.run (va_runS (As := [.int v6, .int r9, .int r10, .int r11]) (rest := [.int r12]) ⟨hx, hb, hml, hown, hts⟩ (c_X1_drawnIn l v6 r9 r10 r11 _ hw) (gcS 4 hts m370 m368 m369 m32 rfl rfl (by decide +kernel) ⟨Nat.le_of_ble_eq_true rfl, Nat.le_of_ble_eq_true rfl⟩) ⟨xbl0, fun U hU hW => ⟨rfl, trivial⟩⟩ rfl rfl hl.1 rfl (lv_room (Nat.le_of_ble_eq_true rfl)) dX1_withLum_81 ⟨Nat.le_of_ble_eq_true rfl, Nat.le_of_ble_eq_true rfl⟩)) (fun r13 hw => ?_)
  refine lv_iload hx hb dX1_withLum_84 (lv_at hl 3 rfl) ?_
  refine lv_iload hx hb dX1_withLum_86 (lv_at hl 2 rfl) ?_
  refine lv_iload hx hb dX1_withLum_88 (lv_at hl 1 rfl) ?_
  refine lv_iload hx hb dX1_withLum_90 (lv_at hl 0 rfl) ?_
  refine vp_callSi (va_Run.run (va_runS (As := [.int v8, .int r9, .int r10, .int r11]) (rest := [.int r13, .int r12]) ⟨hx, hb, hml, hown, hts⟩ (c_X1_drawnIn l v8 r9 r10 r11 _ hw) (gcS 4 hts m370 m368 m369 m32 rfl rfl (by decide +kernel) ⟨Nat.le_of_ble_eq_true rfl, Nat.le_of_ble_eq_true rfl⟩) ⟨xbl0, fun U hU hW => ⟨rfl, trivial⟩⟩ rfl rfl hl.1 rfl (lv_room (Nat.le_of_ble_eq_true rfl)) dX1_withLum_92 ⟨Nat.le_of_ble_eq_true rfl, Nat.le_of_ble_eq_true rfl⟩)) (fun r14 hw => ?_)
  refine vp_callSi (va_Run.run (va_runS (As := [.int r12, .int r13, .int r14]) (rest := []) ⟨hx, hb, hml, hown, hts⟩ (c_X2_packed l r12 r13 r14 _ hw) (gcS 3 hts m328 m355 m327 m30 rfl rfl (by decide +kernel) ⟨Nat.le_of_ble_eq_true rfl, Nat.le_of_ble_eq_true rfl⟩) ⟨xbl0, fun U hU hW => ⟨rfl, trivial⟩⟩ rfl rfl hl.1 rfl (lv_room (Nat.le_of_ble_eq_true rfl)) dX1_withLum_95 ⟨Nat.le_of_ble_eq_true rfl, Nat.le_of_ble_eq_true rfl⟩)) (fun r15 hw => ?_)
  exact W.iret hx hb hr (fun t ht hW => ⟨_, rfl, hw, ht⟩) (fun q h => by cases h) dX1_withLum_98
abbrev wX1_ofBytes : List Cond := Cond.code yX1_ofBytes cX1_ofBytes 3 (some .int) :: gG
def wp_X1_ofBytes (p0 : Int32) (p1 : Int32) (p2 : Int32) (P : Int32 → Prop) : Prop :=
  ((p0 = 1 → wp_X2_mul p1 p2 (fun r2 => P r2)) ∧
  (¬ p0 = 1 → ((p0 = 2 → wp_X2_union p1 p2 (fun r4 => P r4)) ∧
  (¬ p0 = 2 → ((p0 = 3 → wp_X1_hardLight p2 p1 (fun r6 => P r6)) ∧
  (¬ p0 = 3 → ((p0 = 4 → P (if p2 < p1 then p2 else p1)) ∧
  (¬ p0 = 4 → ((p0 = 5 → P (if p1 < p2 then p2 else p1)) ∧
  (¬ p0 = 5 → ((p0 = 6 → wp_X1_dodge p1 p2 (fun r10 => P r10)) ∧
  (¬ p0 = 6 → ((p0 = 7 → wp_X1_burn p1 p2 (fun r12 => P r12)) ∧
  (¬ p0 = 7 → ((p0 = 8 → wp_X1_hardLight p1 p2 (fun r14 => P r14)) ∧
  (¬ p0 = 8 → ((p0 = 9 → wp_X1_softLight p1 p2 (fun r16 => P r16)) ∧
  (¬ p0 = 9 → ((p0 = 10 → P ((if p1 < p2 then p2 else p1) - (if p2 < p1 then p2 else p1))) ∧
  (¬ p0 = 10 → ((p0 = 11 → wp_X2_mul p1 p2 (fun r19 => P (if 0 < ((p1 + p2) - (2 * r19)) then ((p1 + p2) - (2 * r19)) else 0))) ∧
  (¬ p0 = 11 → P p2))))))))))))))))))))))
abbrev rm_X1_ofBytes : Room := { frames := 3, cells := 0, slots := 0, locals := 63 }
set_option maxHeartbeats 4000000 in
set_option maxRecDepth 100000 in
theorem c_X1_ofBytes (l : Launch) (p0 : Int32) (p1 : Int32) (p2 : Int32) (P : Int32 → Prop) (hw : wp_X1_ofBytes p0 p1 p2 P) : Met l yX1_ofBytes wX1_ofBytes rm_X1_ofBytes (xP0 [.int p0, .int p1, .int p2]) (vp_Si P) 0 0 (fun _ => False) := by
  refine Met.ofW (cc := cX1_ofBytes) (maxL := 3) (ret := (some .int)) (by decide) rfl ?_
  intro p e s m args below meth c s₁ B hml hv
  obtain ⟨hargs, -⟩ := hv
  have hx := B.exec
  have hb := B.bytes
  have hr := B.returns
  have hts := atoms_spec (ws := wX1_ofBytes) B.pre
  have hown : s.vm.findClass RX1 = some m.cls := findClass_of_methodNamed B.named
  have hlocks := B.notSynchronized
  have hl := lv_entry ([.int p0, .int p1, .int p2]) (n := 3) (Nat.le_of_ble_eq_true rfl)
  rw [show entryFrame m args 3 = entryFrame m (([.int p0, .int p1, .int p2] : List Value).toArray) 3 from by rw [hargs], lg_entry_eq]
  generalize (lg_sl ([.int p0, .int p1, .int p2]) ++ List.replicate (3 - (lg_sl ([.int p0, .int p1, .int p2])).length) Slot.unset).toArray = ls at hl ⊢
  have hl : lv_has ls 3 [(0, .int p0), (1, .int p1), (2, .int p2)] := hl
  refine lv_iload_n hx hb dX1_ofBytes_0 rfl (lv_at hl 0 rfl) ?_
  by_cases c1 : p0 = 1
  · replace hw := And.left hw c1
    refine lv_tableIn (tgt := 60) hx hb dX1_ofBytes_1 (by rw [c1]; decide) (by rw [c1]; decide) (by rw [c1]; rfl) (by decide) ?_
    refine lv_iload_n hx hb dX1_ofBytes_60 rfl (lv_at hl 1 rfl) ?_
    refine lv_iload_n hx hb dX1_ofBytes_61 rfl (lv_at hl 2 rfl) ?_
    refine vp_callSi (va_Run.run (va_runS (As := [.int p1, .int p2]) (rest := []) ⟨hx, hb, hml, hown, hts⟩ (c_X2_mul l p1 p2 _ hw) (gcS 2 hts m260 m376 m259 m30 rfl rfl (by decide +kernel) ⟨Nat.le_of_ble_eq_true rfl, Nat.le_of_ble_eq_true rfl⟩) ⟨xbl0, fun U hU hW => ⟨rfl, trivial⟩⟩ rfl rfl hl.1 rfl (lv_room (Nat.le_of_ble_eq_true rfl)) dX1_ofBytes_62 ⟨Nat.le_of_ble_eq_true rfl, Nat.le_of_ble_eq_true rfl⟩)) (fun r2 hw => ?_)
    exact W.iret hx hb hr (fun t ht hW => ⟨_, rfl, hw, ht⟩) (fun q h => by cases h) dX1_ofBytes_65
  replace hw := And.right hw c1
  by_cases c3 : p0 = 2
  · replace hw := And.left hw c3
    refine lv_tableIn (tgt := 66) hx hb dX1_ofBytes_1 (by rw [c3]; decide) (by rw [c3]; decide) (by rw [c3]; rfl) (by decide) ?_
    refine lv_iload_n hx hb dX1_ofBytes_66 rfl (lv_at hl 1 rfl) ?_
    refine lv_iload_n hx hb dX1_ofBytes_67 rfl (lv_at hl 2 rfl) ?_
    refine vp_callSi (va_Run.run (va_runS (As := [.int p1, .int p2]) (rest := []) ⟨hx, hb, hml, hown, hts⟩ (c_X2_union l p1 p2 _ hw) (gcS 2 hts m257 m377 m256 m30 rfl rfl (by decide +kernel) ⟨Nat.le_of_ble_eq_true rfl, Nat.le_of_ble_eq_true rfl⟩) ⟨xbl0, fun U hU hW => ⟨rfl, trivial⟩⟩ rfl rfl hl.1 rfl (lv_room (Nat.le_of_ble_eq_true rfl)) dX1_ofBytes_68 ⟨Nat.le_of_ble_eq_true rfl, Nat.le_of_ble_eq_true rfl⟩)) (fun r4 hw => ?_)
    exact W.iret hx hb hr (fun t ht hW => ⟨_, rfl, hw, ht⟩) (fun q h => by cases h) dX1_ofBytes_71
  replace hw := And.right hw c3
  by_cases c5 : p0 = 3
  · replace hw := And.left hw c5
    refine lv_tableIn (tgt := 72) hx hb dX1_ofBytes_1 (by rw [c5]; decide) (by rw [c5]; decide) (by rw [c5]; rfl) (by decide) ?_
    refine lv_iload_n hx hb dX1_ofBytes_72 rfl (lv_at hl 2 rfl) ?_
    refine lv_iload_n hx hb dX1_ofBytes_73 rfl (lv_at hl 1 rfl) ?_
    refine vp_callSi (va_Run.run (va_runS (As := [.int p2, .int p1]) (rest := []) ⟨hx, hb, hml, hown, hts⟩ (c_X1_hardLight l p2 p1 _ hw) (gcS 2 hts m380 m378 m379 m32 rfl rfl (by decide +kernel) ⟨Nat.le_of_ble_eq_true rfl, Nat.le_of_ble_eq_true rfl⟩) ⟨xbl0, fun U hU hW => ⟨rfl, trivial⟩⟩ rfl rfl hl.1 rfl (lv_room (Nat.le_of_ble_eq_true rfl)) dX1_ofBytes_74 ⟨Nat.le_of_ble_eq_true rfl, Nat.le_of_ble_eq_true rfl⟩)) (fun r6 hw => ?_)
    exact W.iret hx hb hr (fun t ht hW => ⟨_, rfl, hw, ht⟩) (fun q h => by cases h) dX1_ofBytes_77
  replace hw := And.right hw c5
  by_cases c7 : p0 = 4
  · replace hw := And.left hw c7
    refine lv_tableIn (tgt := 78) hx hb dX1_ofBytes_1 (by rw [c7]; decide) (by rw [c7]; decide) (by rw [c7]; rfl) (by decide) ?_
    refine lv_iload_n hx hb dX1_ofBytes_78 rfl (lv_at hl 1 rfl) ?_
    refine lv_iload_n hx hb dX1_ofBytes_79 rfl (lv_at hl 2 rfl) ?_
    refine va_mmin hx hb (hml.trans hl.1.symm) hown (hts _ (xm m351)) (hts _ (xm m44)) (hts _ (xm m22)) (hts _ (xm m45)) (Nat.le_of_ble_eq_true rfl) (Nat.le_of_ble_eq_true rfl) (Nat.le_of_ble_eq_true rfl) (Nat.le_of_ble_eq_true rfl) dX1_ofBytes_80 ?_
    exact W.iret hx hb hr (fun t ht hW => ⟨_, rfl, hw, ht⟩) (fun q h => by cases h) dX1_ofBytes_83
  replace hw := And.right hw c7
  by_cases c8 : p0 = 5
  · replace hw := And.left hw c8
    refine lv_tableIn (tgt := 84) hx hb dX1_ofBytes_1 (by rw [c8]; decide) (by rw [c8]; decide) (by rw [c8]; rfl) (by decide) ?_
    refine lv_iload_n hx hb dX1_ofBytes_84 rfl (lv_at hl 1 rfl) ?_
    refine lv_iload_n hx hb dX1_ofBytes_85 rfl (lv_at hl 2 rfl) ?_
    refine va_mmax hx hb (hml.trans hl.1.symm) hown (hts _ (xm m347)) (hts _ (xm m47)) (hts _ (xm m22)) (hts _ (xm m48)) (Nat.le_of_ble_eq_true rfl) (Nat.le_of_ble_eq_true rfl) (Nat.le_of_ble_eq_true rfl) (Nat.le_of_ble_eq_true rfl) dX1_ofBytes_86 ?_
    exact W.iret hx hb hr (fun t ht hW => ⟨_, rfl, hw, ht⟩) (fun q h => by cases h) dX1_ofBytes_89
  replace hw := And.right hw c8
  by_cases c9 : p0 = 6
  · replace hw := And.left hw c9
    refine lv_tableIn (tgt := 90) hx hb dX1_ofBytes_1 (by rw [c9]; decide) (by rw [c9]; decide) (by rw [c9]; rfl) (by decide) ?_
    refine lv_iload_n hx hb dX1_ofBytes_90 rfl (lv_at hl 1 rfl) ?_
    refine lv_iload_n hx hb dX1_ofBytes_91 rfl (lv_at hl 2 rfl) ?_
    refine vp_callSi (va_Run.run (va_runS (As := [.int p1, .int p2]) (rest := []) ⟨hx, hb, hml, hown, hts⟩ (c_X1_dodge l p1 p2 _ hw) (gcS 2 hts m383 m381 m382 m32 rfl rfl (by decide +kernel) ⟨Nat.le_of_ble_eq_true rfl, Nat.le_of_ble_eq_true rfl⟩) ⟨xbl0, fun U hU hW => ⟨rfl, trivial⟩⟩ rfl rfl hl.1 rfl (lv_room (Nat.le_of_ble_eq_true rfl)) dX1_ofBytes_92 ⟨Nat.le_of_ble_eq_true rfl, Nat.le_of_ble_eq_true rfl⟩)) (fun r10 hw => ?_)
    exact W.iret hx hb hr (fun t ht hW => ⟨_, rfl, hw, ht⟩) (fun q h => by cases h) dX1_ofBytes_95
  replace hw := And.right hw c9
  by_cases c11 : p0 = 7
  · replace hw := And.left hw c11
    refine lv_tableIn (tgt := 96) hx hb dX1_ofBytes_1 (by rw [c11]; decide) (by rw [c11]; decide) (by rw [c11]; rfl) (by decide) ?_
    refine lv_iload_n hx hb dX1_ofBytes_96 rfl (lv_at hl 1 rfl) ?_
    refine lv_iload_n hx hb dX1_ofBytes_97 rfl (lv_at hl 2 rfl) ?_
    refine vp_callSi (va_Run.run (va_runS (As := [.int p1, .int p2]) (rest := []) ⟨hx, hb, hml, hown, hts⟩ (c_X1_burn l p1 p2 _ hw) (gcS 2 hts m386 m384 m385 m32 rfl rfl (by decide +kernel) ⟨Nat.le_of_ble_eq_true rfl, Nat.le_of_ble_eq_true rfl⟩) ⟨xbl0, fun U hU hW => ⟨rfl, trivial⟩⟩ rfl rfl hl.1 rfl (lv_room (Nat.le_of_ble_eq_true rfl)) dX1_ofBytes_98 ⟨Nat.le_of_ble_eq_true rfl, Nat.le_of_ble_eq_true rfl⟩)) (fun r12 hw => ?_)
    exact W.iret hx hb hr (fun t ht hW => ⟨_, rfl, hw, ht⟩) (fun q h => by cases h) dX1_ofBytes_101
  replace hw := And.right hw c11
  by_cases c13 : p0 = 8
  · replace hw := And.left hw c13
    refine lv_tableIn (tgt := 102) hx hb dX1_ofBytes_1 (by rw [c13]; decide) (by rw [c13]; decide) (by rw [c13]; rfl) (by decide) ?_
    refine lv_iload_n hx hb dX1_ofBytes_102 rfl (lv_at hl 1 rfl) ?_
    refine lv_iload_n hx hb dX1_ofBytes_103 rfl (lv_at hl 2 rfl) ?_
    refine vp_callSi (va_Run.run (va_runS (As := [.int p1, .int p2]) (rest := []) ⟨hx, hb, hml, hown, hts⟩ (c_X1_hardLight l p1 p2 _ hw) (gcS 2 hts m380 m378 m379 m32 rfl rfl (by decide +kernel) ⟨Nat.le_of_ble_eq_true rfl, Nat.le_of_ble_eq_true rfl⟩) ⟨xbl0, fun U hU hW => ⟨rfl, trivial⟩⟩ rfl rfl hl.1 rfl (lv_room (Nat.le_of_ble_eq_true rfl)) dX1_ofBytes_104 ⟨Nat.le_of_ble_eq_true rfl, Nat.le_of_ble_eq_true rfl⟩)) (fun r14 hw => ?_)
    exact W.iret hx hb hr (fun t ht hW => ⟨_, rfl, hw, ht⟩) (fun q h => by cases h) dX1_ofBytes_107
  replace hw := And.right hw c13
  by_cases c15 : p0 = 9
  · replace hw := And.left hw c15
    refine lv_tableIn (tgt := 108) hx hb dX1_ofBytes_1 (by rw [c15]; decide) (by rw [c15]; decide) (by rw [c15]; rfl) (by decide) ?_
    refine lv_iload_n hx hb dX1_ofBytes_108 rfl (lv_at hl 1 rfl) ?_
    refine lv_iload_n hx hb dX1_ofBytes_109 rfl (lv_at hl 2 rfl) ?_
    refine vp_callSi (va_Run.run (va_runS (As := [.int p1, .int p2]) (rest := []) ⟨hx, hb, hml, hown, hts⟩ (c_X1_softLight l p1 p2 _ hw) (gcS 2 hts m389 m387 m388 m32 rfl rfl (by decide +kernel) ⟨Nat.le_of_ble_eq_true rfl, Nat.le_of_ble_eq_true rfl⟩) ⟨xbl0, fun U hU hW => ⟨rfl, trivial⟩⟩ rfl rfl hl.1 rfl (lv_room (Nat.le_of_ble_eq_true rfl)) dX1_ofBytes_110 ⟨Nat.le_of_ble_eq_true rfl, Nat.le_of_ble_eq_true rfl⟩)) (fun r16 hw => ?_)
    exact W.iret hx hb hr (fun t ht hW => ⟨_, rfl, hw, ht⟩) (fun q h => by cases h) dX1_ofBytes_113
  replace hw := And.right hw c15
  by_cases c17 : p0 = 10
  · replace hw := And.left hw c17
    refine lv_tableIn (tgt := 114) hx hb dX1_ofBytes_1 (by rw [c17]; decide) (by rw [c17]; decide) (by rw [c17]; rfl) (by decide) ?_
    refine lv_iload_n hx hb dX1_ofBytes_114 rfl (lv_at hl 1 rfl) ?_
    refine lv_iload_n hx hb dX1_ofBytes_115 rfl (lv_at hl 2 rfl) ?_
    refine va_mmax hx hb (hml.trans hl.1.symm) hown (hts _ (xm m347)) (hts _ (xm m47)) (hts _ (xm m22)) (hts _ (xm m48)) (Nat.le_of_ble_eq_true rfl) (Nat.le_of_ble_eq_true rfl) (Nat.le_of_ble_eq_true rfl) (Nat.le_of_ble_eq_true rfl) dX1_ofBytes_116 ?_
    refine lv_iload_n hx hb dX1_ofBytes_119 rfl (lv_at hl 1 rfl) ?_
    refine lv_iload_n hx hb dX1_ofBytes_120 rfl (lv_at hl 2 rfl) ?_
    refine va_mmin hx hb (hml.trans hl.1.symm) hown (hts _ (xm m351)) (hts _ (xm m44)) (hts _ (xm m22)) (hts _ (xm m45)) (Nat.le_of_ble_eq_true rfl) (Nat.le_of_ble_eq_true rfl) (Nat.le_of_ble_eq_true rfl) (Nat.le_of_ble_eq_true rfl) dX1_ofBytes_121 ?_
    refine lv_isub hx hb dX1_ofBytes_124 ?_
    exact W.iret hx hb hr (fun t ht hW => ⟨_, rfl, hw, ht⟩) (fun q h => by cases h) dX1_ofBytes_125
  replace hw := And.right hw c17
  by_cases c18 : p0 = 11
  · replace hw := And.left hw c18
    refine lv_tableIn (tgt := 126) hx hb dX1_ofBytes_1 (by rw [c18]; decide) (by rw [c18]; decide) (by rw [c18]; rfl) (by decide) ?_
    refine lv_iconst (v := 0) hx hb dX1_ofBytes_126 (by decide) ?_
    refine lv_iload_n hx hb dX1_ofBytes_127 rfl (lv_at hl 1 rfl) ?_
    refine lv_iload_n hx hb dX1_ofBytes_128 rfl (lv_at hl 2 rfl) ?_
    refine lv_iadd hx hb dX1_ofBytes_129 ?_
    refine lv_iconst (v := 2) hx hb dX1_ofBytes_130 (by decide) ?_
    refine lv_iload_n hx hb dX1_ofBytes_131 rfl (lv_at hl 1 rfl) ?_
    refine lv_iload_n hx hb dX1_ofBytes_132 rfl (lv_at hl 2 rfl) ?_
    refine vp_callSi (va_Run.run (va_runS (As := [.int p1, .int p2]) (rest := [.int 2, .int (p1 + p2), .int 0]) ⟨hx, hb, hml, hown, hts⟩ (c_X2_mul l p1 p2 _ hw) (gcS 2 hts m260 m376 m259 m30 rfl rfl (by decide +kernel) ⟨Nat.le_of_ble_eq_true rfl, Nat.le_of_ble_eq_true rfl⟩) ⟨xbl0, fun U hU hW => ⟨rfl, trivial⟩⟩ rfl rfl hl.1 rfl (lv_room (Nat.le_of_ble_eq_true rfl)) dX1_ofBytes_133 ⟨Nat.le_of_ble_eq_true rfl, Nat.le_of_ble_eq_true rfl⟩)) (fun r19 hw => ?_)
    refine lv_imul hx hb dX1_ofBytes_136 ?_
    refine lv_isub hx hb dX1_ofBytes_137 ?_
    refine va_mmax hx hb (hml.trans hl.1.symm) hown (hts _ (xm m347)) (hts _ (xm m47)) (hts _ (xm m22)) (hts _ (xm m48)) (Nat.le_of_ble_eq_true rfl) (Nat.le_of_ble_eq_true rfl) (Nat.le_of_ble_eq_true rfl) (Nat.le_of_ble_eq_true rfl) dX1_ofBytes_138 ?_
    exact W.iret hx hb hr (fun t ht hW => ⟨_, rfl, hw, ht⟩) (fun q h => by cases h) dX1_ofBytes_141
  replace hw := And.right hw c18
  refine lv_tableOut (tgt := 142) hx hb dX1_ofBytes_1 (xsw1_11 c1 c3 c5 c7 c8 c9 c11 c13 c15 c17 c18) (by decide) ?_
  refine lv_iload_n hx hb dX1_ofBytes_142 rfl (lv_at hl 2 rfl) ?_
  exact W.iret hx hb hr (fun t ht hW => ⟨_, rfl, hw, ht⟩) (fun q h => by cases h) dX1_ofBytes_143
abbrev wX1_ofColours : List Cond := Cond.code yX1_ofColours cX1_ofColours 3 (some .int) :: gG
def wp_X1_ofColours (p0 : Int32) (p1 : Int32) (p2 : Int32) (P : Int32 → Prop) : Prop :=
  ((p0 = 12 → wp_X1_satOf p1 (fun r2 => wp_X1_withSat p2 r2 (fun r3 => wp_X1_lumOf p1 (fun r4 => wp_X1_withLum r3 r4 (fun r5 => P r5))))) ∧
  (¬ p0 = 12 → ((p0 = 13 → wp_X1_satOf p2 (fun r7 => wp_X1_withSat p1 r7 (fun r8 => wp_X1_lumOf p1 (fun r9 => wp_X1_withLum r8 r9 (fun r10 => P r10))))) ∧
  (¬ p0 = 13 → ((p0 = 14 → wp_X1_lumOf p1 (fun r12 => wp_X1_withLum p2 r12 (fun r13 => P r13))) ∧
  (¬ p0 = 14 → ((p0 = 15 → wp_X1_lumOf p2 (fun r15 => wp_X1_withLum p1 r15 (fun r16 => P r16))) ∧
  (¬ p0 = 15 → wp_X2_bandOf p1 0 (fun r17 => wp_X2_bandOf p2 0 (fun r18 => wp_X1_ofBytes p0 r17 r18 (fun r19 => wp_X2_bandOf p1 1 (fun r20 => wp_X2_bandOf p2 1 (fun r21 => wp_X1_ofBytes p0 r20 r21 (fun r22 => wp_X2_bandOf p1 2 (fun r23 => wp_X2_bandOf p2 2 (fun r24 => wp_X1_ofBytes p0 r23 r24 (fun r25 => wp_X2_packed r19 r22 r25 (fun r26 => P r26))))))))))))))))))
abbrev rm_X1_ofColours : Room := { frames := 4, cells := 0, slots := 0, locals := 93 }
set_option maxHeartbeats 4000000 in
set_option maxRecDepth 100000 in
theorem c_X1_ofColours (l : Launch) (p0 : Int32) (p1 : Int32) (p2 : Int32) (P : Int32 → Prop) (hw : wp_X1_ofColours p0 p1 p2 P) : Met l yX1_ofColours wX1_ofColours rm_X1_ofColours (xP0 [.int p0, .int p1, .int p2]) (vp_Si P) 0 0 (fun _ => False) := by
  refine Met.ofW (cc := cX1_ofColours) (maxL := 3) (ret := (some .int)) (by decide) rfl ?_
  intro p e s m args below meth c s₁ B hml hv
  obtain ⟨hargs, -⟩ := hv
  have hx := B.exec
  have hb := B.bytes
  have hr := B.returns
  have hts := atoms_spec (ws := wX1_ofColours) B.pre
  have hown : s.vm.findClass RX1 = some m.cls := findClass_of_methodNamed B.named
  have hlocks := B.notSynchronized
  have hl := lv_entry ([.int p0, .int p1, .int p2]) (n := 3) (Nat.le_of_ble_eq_true rfl)
  rw [show entryFrame m args 3 = entryFrame m (([.int p0, .int p1, .int p2] : List Value).toArray) 3 from by rw [hargs], lg_entry_eq]
  generalize (lg_sl ([.int p0, .int p1, .int p2]) ++ List.replicate (3 - (lg_sl ([.int p0, .int p1, .int p2])).length) Slot.unset).toArray = ls at hl ⊢
  have hl : lv_has ls 3 [(0, .int p0), (1, .int p1), (2, .int p2)] := hl
  refine lv_iload_n hx hb dX1_ofColours_0 rfl (lv_at hl 0 rfl) ?_
  by_cases c1 : p0 = 12
  · replace hw := And.left hw c1
    refine lv_tableIn (tgt := 32) hx hb dX1_ofColours_1 (by rw [c1]; decide) (by rw [c1]; decide) (by rw [c1]; rfl) (by decide) ?_
    refine lv_iload_n hx hb dX1_ofColours_32 rfl (lv_at hl 2 rfl) ?_
    refine lv_iload_n hx hb dX1_ofColours_33 rfl (lv_at hl 1 rfl) ?_
    refine vp_callSi (va_Run.run (va_runS (As := [.int p1]) (rest := [.int p2]) ⟨hx, hb, hml, hown, hts⟩ (c_X1_satOf l p1 _ hw) (gcS 1 hts m342 m340 m341 m32 rfl rfl (by decide +kernel) ⟨Nat.le_of_ble_eq_true rfl, Nat.le_of_ble_eq_true rfl⟩) ⟨xbl0, fun U hU hW => ⟨rfl, trivial⟩⟩ rfl rfl hl.1 rfl (lv_room (Nat.le_of_ble_eq_true rfl)) dX1_ofColours_34 ⟨Nat.le_of_ble_eq_true rfl, Nat.le_of_ble_eq_true rfl⟩)) (fun r2 hw => ?_)
    refine vp_callSi (va_Run.run (va_runS (As := [.int p2, .int r2]) (rest := []) ⟨hx, hb, hml, hown, hts⟩ (c_X1_withSat l p2 r2 _ hw) (gcS 2 hts m354 m352 m353 m32 rfl rfl (by decide +kernel) ⟨Nat.le_of_ble_eq_true rfl, Nat.le_of_ble_eq_true rfl⟩) ⟨xbl0, fun U hU hW => ⟨rfl, trivial⟩⟩ rfl rfl hl.1 rfl (lv_room (Nat.le_of_ble_eq_true rfl)) dX1_ofColours_37 ⟨Nat.le_of_ble_eq_true rfl, Nat.le_of_ble_eq_true rfl⟩)) (fun r3 hw => ?_)
    refine lv_iload_n hx hb dX1_ofColours_40 rfl (lv_at hl 1 rfl) ?_
    refine vp_callSi (va_Run.run (va_runS (As := [.int p1]) (rest := [.int r3]) ⟨hx, hb, hml, hown, hts⟩ (c_X1_lumOf l p1 _ hw) (gcS 1 hts m358 m356 m357 m32 rfl rfl (by decide +kernel) ⟨Nat.le_of_ble_eq_true rfl, Nat.le_of_ble_eq_true rfl⟩) ⟨xbl0, fun U hU hW => ⟨rfl, trivial⟩⟩ rfl rfl hl.1 rfl (lv_room (Nat.le_of_ble_eq_true rfl)) dX1_ofColours_41 ⟨Nat.le_of_ble_eq_true rfl, Nat.le_of_ble_eq_true rfl⟩)) (fun r4 hw => ?_)
    refine vp_callSi (va_Run.run (va_runS (As := [.int r3, .int r4]) (rest := []) ⟨hx, hb, hml, hown, hts⟩ (c_X1_withLum l r3 r4 _ hw) (gcS 2 hts m367 m365 m366 m32 rfl rfl (by decide +kernel) ⟨Nat.le_of_ble_eq_true rfl, Nat.le_of_ble_eq_true rfl⟩) ⟨xbl0, fun U hU hW => ⟨rfl, trivial⟩⟩ rfl rfl hl.1 rfl (lv_room (Nat.le_of_ble_eq_true rfl)) dX1_ofColours_44 ⟨Nat.le_of_ble_eq_true rfl, Nat.le_of_ble_eq_true rfl⟩)) (fun r5 hw => ?_)
    exact W.iret hx hb hr (fun t ht hW => ⟨_, rfl, hw, ht⟩) (fun q h => by cases h) dX1_ofColours_47
  replace hw := And.right hw c1
  by_cases c6 : p0 = 13
  · replace hw := And.left hw c6
    refine lv_tableIn (tgt := 48) hx hb dX1_ofColours_1 (by rw [c6]; decide) (by rw [c6]; decide) (by rw [c6]; rfl) (by decide) ?_
    refine lv_iload_n hx hb dX1_ofColours_48 rfl (lv_at hl 1 rfl) ?_
    refine lv_iload_n hx hb dX1_ofColours_49 rfl (lv_at hl 2 rfl) ?_
    refine vp_callSi (va_Run.run (va_runS (As := [.int p2]) (rest := [.int p1]) ⟨hx, hb, hml, hown, hts⟩ (c_X1_satOf l p2 _ hw) (gcS 1 hts m342 m340 m341 m32 rfl rfl (by decide +kernel) ⟨Nat.le_of_ble_eq_true rfl, Nat.le_of_ble_eq_true rfl⟩) ⟨xbl0, fun U hU hW => ⟨rfl, trivial⟩⟩ rfl rfl hl.1 rfl (lv_room (Nat.le_of_ble_eq_true rfl)) dX1_ofColours_50 ⟨Nat.le_of_ble_eq_true rfl, Nat.le_of_ble_eq_true rfl⟩)) (fun r7 hw => ?_)
    refine vp_callSi (va_Run.run (va_runS (As := [.int p1, .int r7]) (rest := []) ⟨hx, hb, hml, hown, hts⟩ (c_X1_withSat l p1 r7 _ hw) (gcS 2 hts m354 m352 m353 m32 rfl rfl (by decide +kernel) ⟨Nat.le_of_ble_eq_true rfl, Nat.le_of_ble_eq_true rfl⟩) ⟨xbl0, fun U hU hW => ⟨rfl, trivial⟩⟩ rfl rfl hl.1 rfl (lv_room (Nat.le_of_ble_eq_true rfl)) dX1_ofColours_53 ⟨Nat.le_of_ble_eq_true rfl, Nat.le_of_ble_eq_true rfl⟩)) (fun r8 hw => ?_)
    refine lv_iload_n hx hb dX1_ofColours_56 rfl (lv_at hl 1 rfl) ?_
    refine vp_callSi (va_Run.run (va_runS (As := [.int p1]) (rest := [.int r8]) ⟨hx, hb, hml, hown, hts⟩ (c_X1_lumOf l p1 _ hw) (gcS 1 hts m358 m356 m357 m32 rfl rfl (by decide +kernel) ⟨Nat.le_of_ble_eq_true rfl, Nat.le_of_ble_eq_true rfl⟩) ⟨xbl0, fun U hU hW => ⟨rfl, trivial⟩⟩ rfl rfl hl.1 rfl (lv_room (Nat.le_of_ble_eq_true rfl)) dX1_ofColours_57 ⟨Nat.le_of_ble_eq_true rfl, Nat.le_of_ble_eq_true rfl⟩)) (fun r9 hw => ?_)
    refine vp_callSi (va_Run.run (va_runS (As := [.int r8, .int r9]) (rest := []) ⟨hx, hb, hml, hown, hts⟩ (c_X1_withLum l r8 r9 _ hw) (gcS 2 hts m367 m365 m366 m32 rfl rfl (by decide +kernel) ⟨Nat.le_of_ble_eq_true rfl, Nat.le_of_ble_eq_true rfl⟩) ⟨xbl0, fun U hU hW => ⟨rfl, trivial⟩⟩ rfl rfl hl.1 rfl (lv_room (Nat.le_of_ble_eq_true rfl)) dX1_ofColours_60 ⟨Nat.le_of_ble_eq_true rfl, Nat.le_of_ble_eq_true rfl⟩)) (fun r10 hw => ?_)
    exact W.iret hx hb hr (fun t ht hW => ⟨_, rfl, hw, ht⟩) (fun q h => by cases h) dX1_ofColours_63
  replace hw := And.right hw c6
  by_cases c11 : p0 = 14
  · replace hw := And.left hw c11
    refine lv_tableIn (tgt := 64) hx hb dX1_ofColours_1 (by rw [c11]; decide) (by rw [c11]; decide) (by rw [c11]; rfl) (by decide) ?_
    refine lv_iload_n hx hb dX1_ofColours_64 rfl (lv_at hl 2 rfl) ?_
    refine lv_iload_n hx hb dX1_ofColours_65 rfl (lv_at hl 1 rfl) ?_
    refine vp_callSi (va_Run.run (va_runS (As := [.int p1]) (rest := [.int p2]) ⟨hx, hb, hml, hown, hts⟩ (c_X1_lumOf l p1 _ hw) (gcS 1 hts m358 m356 m357 m32 rfl rfl (by decide +kernel) ⟨Nat.le_of_ble_eq_true rfl, Nat.le_of_ble_eq_true rfl⟩) ⟨xbl0, fun U hU hW => ⟨rfl, trivial⟩⟩ rfl rfl hl.1 rfl (lv_room (Nat.le_of_ble_eq_true rfl)) dX1_ofColours_66 ⟨Nat.le_of_ble_eq_true rfl, Nat.le_of_ble_eq_true rfl⟩)) (fun r12 hw => ?_)
    refine vp_callSi (va_Run.run (va_runS (As := [.int p2, .int r12]) (rest := []) ⟨hx, hb, hml, hown, hts⟩ (c_X1_withLum l p2 r12 _ hw) (gcS 2 hts m367 m365 m366 m32 rfl rfl (by decide +kernel) ⟨Nat.le_of_ble_eq_true rfl, Nat.le_of_ble_eq_true rfl⟩) ⟨xbl0, fun U hU hW => ⟨rfl, trivial⟩⟩ rfl rfl hl.1 rfl (lv_room (Nat.le_of_ble_eq_true rfl)) dX1_ofColours_69 ⟨Nat.le_of_ble_eq_true rfl, Nat.le_of_ble_eq_true rfl⟩)) (fun r13 hw => ?_)
    exact W.iret hx hb hr (fun t ht hW => ⟨_, rfl, hw, ht⟩) (fun q h => by cases h) dX1_ofColours_72
  replace hw := And.right hw c11
  by_cases c14 : p0 = 15
  · replace hw := And.left hw c14
    refine lv_tableIn (tgt := 73) hx hb dX1_ofColours_1 (by rw [c14]; decide) (by rw [c14]; decide) (by rw [c14]; rfl) (by decide) ?_
    refine lv_iload_n hx hb dX1_ofColours_73 rfl (lv_at hl 1 rfl) ?_
    refine lv_iload_n hx hb dX1_ofColours_74 rfl (lv_at hl 2 rfl) ?_
    refine vp_callSi (va_Run.run (va_runS (As := [.int p2]) (rest := [.int p1]) ⟨hx, hb, hml, hown, hts⟩ (c_X1_lumOf l p2 _ hw) (gcS 1 hts m358 m356 m357 m32 rfl rfl (by decide +kernel) ⟨Nat.le_of_ble_eq_true rfl, Nat.le_of_ble_eq_true rfl⟩) ⟨xbl0, fun U hU hW => ⟨rfl, trivial⟩⟩ rfl rfl hl.1 rfl (lv_room (Nat.le_of_ble_eq_true rfl)) dX1_ofColours_75 ⟨Nat.le_of_ble_eq_true rfl, Nat.le_of_ble_eq_true rfl⟩)) (fun r15 hw => ?_)
    refine vp_callSi (va_Run.run (va_runS (As := [.int p1, .int r15]) (rest := []) ⟨hx, hb, hml, hown, hts⟩ (c_X1_withLum l p1 r15 _ hw) (gcS 2 hts m367 m365 m366 m32 rfl rfl (by decide +kernel) ⟨Nat.le_of_ble_eq_true rfl, Nat.le_of_ble_eq_true rfl⟩) ⟨xbl0, fun U hU hW => ⟨rfl, trivial⟩⟩ rfl rfl hl.1 rfl (lv_room (Nat.le_of_ble_eq_true rfl)) dX1_ofColours_78 ⟨Nat.le_of_ble_eq_true rfl, Nat.le_of_ble_eq_true rfl⟩)) (fun r16 hw => ?_)
    exact W.iret hx hb hr (fun t ht hW => ⟨_, rfl, hw, ht⟩) (fun q h => by cases h) dX1_ofColours_81
  replace hw := And.right hw c14
  refine lv_tableOut (tgt := 82) hx hb dX1_ofColours_1 (xsw12_15 c1 c6 c11 c14) (by decide) ?_
  refine lv_iload_n hx hb dX1_ofColours_82 rfl (lv_at hl 0 rfl) ?_
  refine lv_iload_n hx hb dX1_ofColours_83 rfl (lv_at hl 1 rfl) ?_
  refine lv_iconst (v := 0) hx hb dX1_ofColours_84 (by decide) ?_
  refine vp_callSi (va_Run.run (va_runS (As := [.int p1, .int 0]) (rest := [.int p0]) ⟨hx, hb, hml, hown, hts⟩ (c_X2_bandOf l p1 0 _ hw) (gcS 2 hts m320 m343 m319 m30 rfl rfl (by decide +kernel) ⟨Nat.le_of_ble_eq_true rfl, Nat.le_of_ble_eq_true rfl⟩) ⟨xbl0, fun U hU hW => ⟨rfl, trivial⟩⟩ rfl rfl hl.1 rfl (lv_room (Nat.le_of_ble_eq_true rfl)) dX1_ofColours_85 ⟨Nat.le_of_ble_eq_true rfl, Nat.le_of_ble_eq_true rfl⟩)) (fun r17 hw => ?_)
  refine lv_iload_n hx hb dX1_ofColours_88 rfl (lv_at hl 2 rfl) ?_
  refine lv_iconst (v := 0) hx hb dX1_ofColours_89 (by decide) ?_
  refine vp_callSi (va_Run.run (va_runS (As := [.int p2, .int 0]) (rest := [.int r17, .int p0]) ⟨hx, hb, hml, hown, hts⟩ (c_X2_bandOf l p2 0 _ hw) (gcS 2 hts m320 m343 m319 m30 rfl rfl (by decide +kernel) ⟨Nat.le_of_ble_eq_true rfl, Nat.le_of_ble_eq_true rfl⟩) ⟨xbl0, fun U hU hW => ⟨rfl, trivial⟩⟩ rfl rfl hl.1 rfl (lv_room (Nat.le_of_ble_eq_true rfl)) dX1_ofColours_90 ⟨Nat.le_of_ble_eq_true rfl, Nat.le_of_ble_eq_true rfl⟩)) (fun r18 hw => ?_)
  refine vp_callSi (va_Run.run (va_runS (As := [.int p0, .int r17, .int r18]) (rest := []) ⟨hx, hb, hml, hown, hts⟩ (c_X1_ofBytes l p0 r17 r18 _ hw) (gcS 3 hts m375 m373 m374 m32 rfl rfl (by decide +kernel) ⟨Nat.le_of_ble_eq_true rfl, Nat.le_of_ble_eq_true rfl⟩) ⟨xbl0, fun U hU hW => ⟨rfl, trivial⟩⟩ rfl rfl hl.1 rfl (lv_room (Nat.le_of_ble_eq_true rfl)) dX1_ofColours_93 ⟨Nat.le_of_ble_eq_true rfl, Nat.le_of_ble_eq_true rfl⟩)) (fun r19 hw => ?_)
  refine lv_iload_n hx hb dX1_ofColours_96 rfl (lv_at hl 0 rfl) ?_
  refine lv_iload_n hx hb dX1_ofColours_97 rfl (lv_at hl 1 rfl) ?_
  refine lv_iconst (v := 1) hx hb dX1_ofColours_98 (by decide) ?_
  refine vp_callSi (va_Run.run (va_runS (As := [.int p1, .int 1]) (rest := [.int p0, .int r19]) ⟨hx, hb, hml, hown, hts⟩ (c_X2_bandOf l p1 1 _ hw) (gcS 2 hts m320 m343 m319 m30 rfl rfl (by decide +kernel) ⟨Nat.le_of_ble_eq_true rfl, Nat.le_of_ble_eq_true rfl⟩) ⟨xbl0, fun U hU hW => ⟨rfl, trivial⟩⟩ rfl rfl hl.1 rfl (lv_room (Nat.le_of_ble_eq_true rfl)) dX1_ofColours_99 ⟨Nat.le_of_ble_eq_true rfl, Nat.le_of_ble_eq_true rfl⟩)) (fun r20 hw => ?_)
  refine lv_iload_n hx hb dX1_ofColours_102 rfl (lv_at hl 2 rfl) ?_
  refine lv_iconst (v := 1) hx hb dX1_ofColours_103 (by decide) ?_
  refine vp_callSi (va_Run.run (va_runS (As := [.int p2, .int 1]) (rest := [.int r20, .int p0, .int r19]) ⟨hx, hb, hml, hown, hts⟩ (c_X2_bandOf l p2 1 _ hw) (gcS 2 hts m320 m343 m319 m30 rfl rfl (by decide +kernel) ⟨Nat.le_of_ble_eq_true rfl, Nat.le_of_ble_eq_true rfl⟩) ⟨xbl0, fun U hU hW => ⟨rfl, trivial⟩⟩ rfl rfl hl.1 rfl (lv_room (Nat.le_of_ble_eq_true rfl)) dX1_ofColours_104 ⟨Nat.le_of_ble_eq_true rfl, Nat.le_of_ble_eq_true rfl⟩)) (fun r21 hw => ?_)
  refine vp_callSi (va_Run.run (va_runS (As := [.int p0, .int r20, .int r21]) (rest := [.int r19]) ⟨hx, hb, hml, hown, hts⟩ (c_X1_ofBytes l p0 r20 r21 _ hw) (gcS 3 hts m375 m373 m374 m32 rfl rfl (by decide +kernel) ⟨Nat.le_of_ble_eq_true rfl, Nat.le_of_ble_eq_true rfl⟩) ⟨xbl0, fun U hU hW => ⟨rfl, trivial⟩⟩ rfl rfl hl.1 rfl (lv_room (Nat.le_of_ble_eq_true rfl)) dX1_ofColours_107 ⟨Nat.le_of_ble_eq_true rfl, Nat.le_of_ble_eq_true rfl⟩)) (fun r22 hw => ?_)
  refine lv_iload_n hx hb dX1_ofColours_110 rfl (lv_at hl 0 rfl) ?_
  refine lv_iload_n hx hb dX1_ofColours_111 rfl (lv_at hl 1 rfl) ?_
  refine lv_iconst (v := 2) hx hb dX1_ofColours_112 (by decide) ?_
  refine vp_callSi (va_Run.run (va_runS (As := [.int p1, .int 2]) (rest := [.int p0, .int r22, .int r19]) ⟨hx, hb, hml, hown, hts⟩ (c_X2_bandOf l p1 2 _ hw) (gcS 2 hts m320 m343 m319 m30 rfl rfl (by decide +kernel) ⟨Nat.le_of_ble_eq_true rfl, Nat.le_of_ble_eq_true rfl⟩) ⟨xbl0, fun U hU hW => ⟨rfl, trivial⟩⟩ rfl rfl hl.1 rfl (lv_room (Nat.le_of_ble_eq_true rfl)) dX1_ofColours_113 ⟨Nat.le_of_ble_eq_true rfl, Nat.le_of_ble_eq_true rfl⟩)) (fun r23 hw => ?_)
  refine lv_iload_n hx hb dX1_ofColours_116 rfl (lv_at hl 2 rfl) ?_
  refine lv_iconst (v := 2) hx hb dX1_ofColours_117 (by decide) ?_
  refine vp_callSi (va_Run.run (va_runS (As := [.int p2, .int 2]) (rest := [.int r23, .int p0, .int r22, .int r19]) ⟨hx, hb, hml, hown, hts⟩ (c_X2_bandOf l p2 2 _ hw) (gcS 2 hts m320 m343 m319 m30 rfl rfl (by decide +kernel) ⟨Nat.le_of_ble_eq_true rfl, Nat.le_of_ble_eq_true rfl⟩) ⟨xbl0, fun U hU hW => ⟨rfl, trivial⟩⟩ rfl rfl hl.1 rfl (lv_room (Nat.le_of_ble_eq_true rfl)) dX1_ofColours_118 ⟨Nat.le_of_ble_eq_true rfl, Nat.le_of_ble_eq_true rfl⟩)) (fun r24 hw => ?_)
  refine vp_callSi (va_Run.run (va_runS (As := [.int p0, .int r23, .int r24]) (rest := [.int r22, .int r19]) ⟨hx, hb, hml, hown, hts⟩ (c_X1_ofBytes l p0 r23 r24 _ hw) (gcS 3 hts m375 m373 m374 m32 rfl rfl (by decide +kernel) ⟨Nat.le_of_ble_eq_true rfl, Nat.le_of_ble_eq_true rfl⟩) ⟨xbl0, fun U hU hW => ⟨rfl, trivial⟩⟩ rfl rfl hl.1 rfl (lv_room (Nat.le_of_ble_eq_true rfl)) dX1_ofColours_121 ⟨Nat.le_of_ble_eq_true rfl, Nat.le_of_ble_eq_true rfl⟩)) (fun r25 hw => ?_)
  refine vp_callSi (va_Run.run (va_runS (As := [.int r19, .int r22, .int r25]) (rest := []) ⟨hx, hb, hml, hown, hts⟩ (c_X2_packed l r19 r22 r25 _ hw) (gcS 3 hts m328 m355 m327 m30 rfl rfl (by decide +kernel) ⟨Nat.le_of_ble_eq_true rfl, Nat.le_of_ble_eq_true rfl⟩) ⟨xbl0, fun U hU hW => ⟨rfl, trivial⟩⟩ rfl rfl hl.1 rfl (lv_room (Nat.le_of_ble_eq_true rfl)) dX1_ofColours_124 ⟨Nat.le_of_ble_eq_true rfl, Nat.le_of_ble_eq_true rfl⟩)) (fun r26 hw => ?_)
  exact W.iret hx hb hr (fun t ht hW => ⟨_, rfl, hw, ht⟩) (fun q h => by cases h) dX1_ofColours_127
