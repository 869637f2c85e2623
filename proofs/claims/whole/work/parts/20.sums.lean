theorem m22 : Cond.initialized "java/lang/Math" ∈ gG := gG_mk (i := 22) (by decide +kernel) (by decide +kernel)
theorem m30 : Cond.initialized yX2_mul.cls ∈ gG := gG_mk (i := 30) (by decide +kernel) (by decide +kernel)
theorem m44 : Cond.static Lib.Math.min.name ∈ gG := gG_mk (i := 44) (by decide +kernel) (by decide +kernel)
theorem m45 : Cond.code Lib.Math.min.name Lib.Math.min.code 2 (some .int) ∈ gG := gG_mk (i := 45) (by decide +kernel) (by decide +kernel)
theorem m47 : Cond.static Lib.Math.max.name ∈ gG := gG_mk (i := 47) (by decide +kernel) (by decide +kernel)
theorem m48 : Cond.code Lib.Math.max.name Lib.Math.max.code 2 (some .int) ∈ gG := gG_mk (i := 48) (by decide +kernel) (by decide +kernel)
theorem m258 : Cond.methodLink RX2 9 yX2_mul ∈ gG := gG_mk (i := 258) (by decide +kernel) (by decide +kernel)
theorem m259 : Cond.static yX2_mul ∈ gG := gG_mk (i := 259) (by decide +kernel) (by decide +kernel)
theorem m260 : Cond.code yX2_mul cX2_mul 2 (some .int) ∈ gG := gG_mk (i := 260) (by decide +kernel) (by decide +kernel)
theorem m324 : Cond.methodLink RX2 15 Lib.Math.min.name ∈ gG := gG_mk (i := 324) (by decide +kernel) (by decide +kernel)
theorem m325 : Cond.methodLink RX2 20 Lib.Math.max.name ∈ gG := gG_mk (i := 325) (by decide +kernel) (by decide +kernel)
theorem m362 : Cond.methodLink RX2 23 yJ9_floorDiv_7cf53 ∈ gG := gG_mk (i := 362) (by decide +kernel) (by decide +kernel)
theorem m363 : Cond.static yJ9_floorDiv_7cf53 ∈ gG := gG_mk (i := 363) (by decide +kernel) (by decide +kernel)
theorem m364 : Cond.code yJ9_floorDiv_7cf53 cJ9_floorDiv_7cf53 3 (some .int) ∈ gG := gG_mk (i := 364) (by decide +kernel) (by decide +kernel)
abbrev wJ9_floorDiv_7cf53 : List Cond := Cond.code yJ9_floorDiv_7cf53 cJ9_floorDiv_7cf53 3 (some .int) :: gG
def wp_J9_floorDiv (p0 : Int32) (p1 : Int32) (P : Int32 → Prop) : Prop :=
  (¬ p1 = 0 ∧ ∀ v1 : Int32, v1 = (p0 / p1) → ((0 ≤ (p0 ^^^ p1) → P v1) ∧
  (¬ 0 ≤ (p0 ^^^ p1) → (((v1 * p1) = p0 → P v1) ∧
  (¬ (v1 * p1) = p0 → P (v1 - 1))))))
abbrev rm_J9_floorDiv : Room := { frames := 0, cells := 0, slots := 0, locals := 0 }
set_option maxHeartbeats 4000000 in
set_option maxRecDepth 100000 in
theorem c_J9_floorDiv (l : Launch) (p0 : Int32) (p1 : Int32) (P : Int32 → Prop) (hw : wp_J9_floorDiv p0 p1 P) : Met l yJ9_floorDiv_7cf53 wJ9_floorDiv_7cf53 rm_J9_floorDiv (xP0 [.int p0, .int p1]) (vp_Si P) 0 0 (fun _ => False) := by
  refine xofW (cc := cJ9_floorDiv_7cf53) (maxL := 3) (ret := (some .int)) (by decide +kernel) rfl ?_
  intro p e s m args below meth c s₁ B hml hv
  obtain ⟨hargs, -⟩ := hv
  have hx := B.exec
  have hb := B.bytes
  have hr := B.returns
  have hts := atoms_spec (ws := wJ9_floorDiv_7cf53) B.pre
  have hown : s.vm.findClass RJ9 = some m.cls := findClass_of_methodNamed B.named
  have hlocks := B.notSynchronized
  have hl := lv_entry ([.int p0, .int p1]) (n := 3) (Nat.le_of_ble_eq_true rfl)
  rw [show entryFrame m args 3 = entryFrame m (([.int p0, .int p1] : List Value).toArray) 3 from by rw [hargs], lg_entry_eq]
  generalize (lg_sl ([.int p0, .int p1]) ++ List.replicate (3 - (lg_sl ([.int p0, .int p1])).length) Slot.unset).toArray = ls at hl ⊢
  have hl : lv_has ls 3 [(0, .int p0), (1, .int p1)] := hl
  refine lv_iload_n hx hb dJ9_floorDiv_7cf53_0 rfl (lv_at hl 0 rfl) ?_
  refine lv_iload_n hx hb dJ9_floorDiv_7cf53_1 rfl (lv_at hl 1 rfl) ?_
  refine lv_idiv hx hb dJ9_floorDiv_7cf53_2 (And.left hw) ?_
  replace hw := And.right hw
  refine lv_topi (fun v1 e_v1 => ?_)
  replace hw := hw v1 e_v1
  refine lv_istore_n (lv' := [(2, .int v1), (0, .int p0), (1, .int p1)]) hx hb dJ9_floorDiv_7cf53_3 rfl hl (by decide) rfl (fun ls hl => ?_)
  refine lv_iload_n hx hb dJ9_floorDiv_7cf53_4 rfl (lv_at hl 1 rfl) ?_
  refine lv_iload_n hx hb dJ9_floorDiv_7cf53_5 rfl (lv_at hl 2 rfl) ?_
  refine lv_ixor hx hb dJ9_floorDiv_7cf53_6 ?_
  refine lv_if_ge (tgt := 21) hx hb dJ9_floorDiv_7cf53_7 (by decide) (fun c3 => ?_) (fun c3 => ?_)
  · replace hw := And.left hw c3
    refine lv_iload_n hx hb dJ9_floorDiv_7cf53_21 rfl (lv_at hl 0 rfl) ?_
    exact W.iret hx hb hr (fun t ht hW => ⟨_, rfl, hw, ht⟩) (fun q h => by cases h) dJ9_floorDiv_7cf53_22
  · replace hw := And.right hw c3
    refine lv_iload_n hx hb dJ9_floorDiv_7cf53_10 rfl (lv_at hl 0 rfl) ?_
    refine lv_iload_n hx hb dJ9_floorDiv_7cf53_11 rfl (lv_at hl 2 rfl) ?_
    refine lv_imul hx hb dJ9_floorDiv_7cf53_12 ?_
    refine lv_iload_n hx hb dJ9_floorDiv_7cf53_13 rfl (lv_at hl 1 rfl) ?_
    refine lv_icmp_eq (tgt := 21) hx hb dJ9_floorDiv_7cf53_14 (by decide) (fun c2 => ?_) (fun c2 => ?_)
    · replace hw := And.left hw c2
      refine lv_iload_n hx hb dJ9_floorDiv_7cf53_21 rfl (lv_at hl 0 rfl) ?_
      exact W.iret hx hb hr (fun t ht hW => ⟨_, rfl, hw, ht⟩) (fun q h => by cases h) dJ9_floorDiv_7cf53_22
    · replace hw := And.right hw c2
      refine lv_iload_n hx hb dJ9_floorDiv_7cf53_17 rfl (lv_at hl 0 rfl) ?_
      refine lv_iconst (v := 1) hx hb dJ9_floorDiv_7cf53_18 (by decide) ?_
      refine lv_isub hx hb dJ9_floorDiv_7cf53_19 ?_
      exact W.iret hx hb hr (fun t ht hW => ⟨_, rfl, hw, ht⟩) (fun q h => by cases h) dJ9_floorDiv_7cf53_20
abbrev wX2_mul : List Cond := Cond.code yX2_mul cX2_mul 2 (some .int) :: gG
def wp_X2_mul (p0 : Int32) (p1 : Int32) (P : Int32 → Prop) : Prop :=
  P (((p0 * p1) + 127) / 255)
abbrev rm_X2_mul : Room := { frames := 0, cells := 0, slots := 0, locals := 0 }
set_option maxHeartbeats 4000000 in
set_option maxRecDepth 100000 in
theorem c_X2_mul (l : Launch) (p0 : Int32) (p1 : Int32) (P : Int32 → Prop) (hw : wp_X2_mul p0 p1 P) : Met l yX2_mul wX2_mul rm_X2_mul (xP0 [.int p0, .int p1]) (vp_Si P) 0 0 (fun _ => False) := by
  refine Met.ofW (cc := cX2_mul) (maxL := 2) (ret := (some .int)) (by decide) rfl ?_
  intro p e s m args below meth c s₁ B hml hv
  obtain ⟨hargs, -⟩ := hv
  have hx := B.exec
  have hb := B.bytes
  have hr := B.returns
  have hts := atoms_spec (ws := wX2_mul) B.pre
  have hown : s.vm.findClass RX2 = some m.cls := findClass_of_methodNamed B.named
  have hlocks := B.notSynchronized
  have hl := lv_entry ([.int p0, .int p1]) (n := 2) (Nat.le_of_ble_eq_true rfl)
  rw [show entryFrame m args 2 = entryFrame m (([.int p0, .int p1] : List Value).toArray) 2 from by rw [hargs], lg_entry_eq]
  generalize (lg_sl ([.int p0, .int p1]) ++ List.replicate (2 - (lg_sl ([.int p0, .int p1])).length) Slot.unset).toArray = ls at hl ⊢
  have hl : lv_has ls 2 [(0, .int p0), (1, .int p1)] := hl
  refine lv_iload_n hx hb dX2_mul_0 rfl (lv_at hl 0 rfl) ?_
  refine lv_iload_n hx hb dX2_mul_1 rfl (lv_at hl 1 rfl) ?_
  refine lv_imul hx hb dX2_mul_2 ?_
  refine lv_bipush (v := 127) hx hb dX2_mul_3 (by decide) ?_
  refine lv_iadd hx hb dX2_mul_5 ?_
  refine lv_sipush (v := 255) hx hb dX2_mul_6 (by decide) ?_
  refine lv_idiv hx hb dX2_mul_9 (by decide) ?_
  exact W.iret hx hb hr (fun t ht hW => ⟨_, rfl, hw, ht⟩) (fun q h => by cases h) dX2_mul_10
abbrev wX2_union : List Cond := Cond.code yX2_union cX2_union 2 (some .int) :: gG
def wp_X2_union (p0 : Int32) (p1 : Int32) (P : Int32 → Prop) : Prop :=
  wp_X2_mul p0 p1 (fun r1 => P ((p0 + p1) - r1))
abbrev rm_X2_union : Room := { frames := 1, cells := 0, slots := 0, locals := 21 }
set_option maxHeartbeats 4000000 in
set_option maxRecDepth 100000 in
theorem c_X2_union (l : Launch) (p0 : Int32) (p1 : Int32) (P : Int32 → Prop) (hw : wp_X2_union p0 p1 P) : Met l yX2_union wX2_union rm_X2_union (xP0 [.int p0, .int p1]) (vp_Si P) 0 0 (fun _ => False) := by
  refine Met.ofW (cc := cX2_union) (maxL := 2) (ret := (some .int)) (by decide) rfl ?_
  intro p e s m args below meth c s₁ B hml hv
  obtain ⟨hargs, -⟩ := hv
  have hx := B.exec
  have hb := B.bytes
  have hr := B.returns
  have hts := atoms_spec (ws := wX2_union) B.pre
  have hown : s.vm.findClass RX2 = some m.cls := findClass_of_methodNamed B.named
  have hlocks := B.notSynchronized
  have hl := lv_entry ([.int p0, .int p1]) (n := 2) (Nat.le_of_ble_eq_true rfl)
  rw [show entryFrame m args 2 = entryFrame m (([.int p0, .int p1] : List Value).toArray) 2 from by rw [hargs], lg_entry_eq]
  generalize (lg_sl ([.int p0, .int p1]) ++ List.replicate (2 - (lg_sl ([.int p0, .int p1])).length) Slot.unset).toArray = ls at hl ⊢
  have hl : lv_has ls 2 [(0, .int p0), (1, .int p1)] := hl
  refine lv_iload_n hx hb dX2_union_0 rfl (lv_at hl 0 rfl) ?_
  refine lv_iload_n hx hb dX2_union_1 rfl (lv_at hl 1 rfl) ?_
  refine lv_iadd hx hb dX2_union_2 ?_
  refine lv_iload_n hx hb dX2_union_3 rfl (lv_at hl 0 rfl) ?_
  refine lv_iload_n hx hb dX2_union_4 rfl (lv_at hl 1 rfl) ?_
  refine vp_callSi (va_Run.run (va_runS (As := [.int p0, .int p1]) (rest := [.int (p0 + p1)]) ⟨hx, hb, hml, hown, hts⟩ (c_X2_mul l p0 p1 _ hw) (gcS 2 hts m260 m258 m259 m30 rfl rfl (by decide +kernel) ⟨Nat.le_of_ble_eq_true rfl, Nat.le_of_ble_eq_true rfl⟩) ⟨xbl0, fun U hU hW => ⟨rfl, trivial⟩⟩ rfl rfl hl.1 rfl (lv_room (Nat.le_of_ble_eq_true rfl)) dX2_union_5 ⟨Nat.le_of_ble_eq_true rfl, Nat.le_of_ble_eq_true rfl⟩)) (fun r1 hw => ?_)
  refine lv_isub hx hb dX2_union_8 ?_
  exact W.iret hx hb hr (fun t ht hW => ⟨_, rfl, hw, ht⟩) (fun q h => by cases h) dX2_union_9
abbrev wX2_within : List Cond := Cond.code yX2_within cX2_within 1 (some .int) :: gG
def wp_X2_within (p0 : Int32) (P : Int32 → Prop) : Prop :=
  P (if 0 < (if p0 < 255 then p0 else 255) then (if p0 < 255 then p0 else 255) else 0)
abbrev rm_X2_within : Room := { frames := 1, cells := 0, slots := 0, locals := 21 }
set_option maxHeartbeats 4000000 in
set_option maxRecDepth 100000 in
theorem c_X2_within (l : Launch) (p0 : Int32) (P : Int32 → Prop) (hw : wp_X2_within p0 P) : Met l yX2_within wX2_within rm_X2_within (xP0 [.int p0]) (vp_Si P) 0 0 (fun _ => False) := by
  refine Met.ofW (cc := cX2_within) (maxL := 1) (ret := (some .int)) (by decide) rfl ?_
  intro p e s m args below meth c s₁ B hml hv
  obtain ⟨hargs, -⟩ := hv
  have hx := B.exec
  have hb := B.bytes
  have hr := B.returns
  have hts := atoms_spec (ws := wX2_within) B.pre
  have hown : s.vm.findClass RX2 = some m.cls := findClass_of_methodNamed B.named
  have hlocks := B.notSynchronized
  have hl := lv_entry ([.int p0]) (n := 1) (Nat.le_of_ble_eq_true rfl)
  rw [show entryFrame m args 1 = entryFrame m (([.int p0] : List Value).toArray) 1 from by rw [hargs], lg_entry_eq]
  generalize (lg_sl ([.int p0]) ++ List.replicate (1 - (lg_sl ([.int p0])).length) Slot.unset).toArray = ls at hl ⊢
  have hl : lv_has ls 1 [(0, .int p0)] := hl
  refine lv_iconst (v := 0) hx hb dX2_within_0 (by decide) ?_
  refine lv_sipush (v := 255) hx hb dX2_within_1 (by decide) ?_
  refine lv_iload_n hx hb dX2_within_4 rfl (lv_at hl 0 rfl) ?_
  refine va_mmin hx hb (hml.trans hl.1.symm) hown (hts _ (xm m324)) (hts _ (xm m44)) (hts _ (xm m22)) (hts _ (xm m45)) (Nat.le_of_ble_eq_true rfl) (Nat.le_of_ble_eq_true rfl) (Nat.le_of_ble_eq_true rfl) (Nat.le_of_ble_eq_true rfl) dX2_within_5 ?_
  refine va_mmax hx hb (hml.trans hl.1.symm) hown (hts _ (xm m325)) (hts _ (xm m47)) (hts _ (xm m22)) (hts _ (xm m48)) (Nat.le_of_ble_eq_true rfl) (Nat.le_of_ble_eq_true rfl) (Nat.le_of_ble_eq_true rfl) (Nat.le_of_ble_eq_true rfl) dX2_within_8 ?_
  exact W.iret hx hb hr (fun t ht hW => ⟨_, rfl, hw, ht⟩) (fun q h => by cases h) dX2_within_11
abbrev wX2_nearest : List Cond := Cond.code yX2_nearest cX2_nearest 2 (some .int) :: gG
def wp_X2_nearest (p0 : Int32) (p1 : Int32) (P : Int32 → Prop) : Prop :=
  ((0 < p1 → (¬ p1 = 0 ∧ P (if ((p0 + (p1 / 2)) / p1) < 255 then ((p0 + (p1 / 2)) / p1) else 255))) ∧
  (¬ 0 < p1 → P 0))
abbrev rm_X2_nearest : Room := { frames := 1, cells := 0, slots := 0, locals := 21 }
set_option maxHeartbeats 4000000 in
set_option maxRecDepth 100000 in
theorem c_X2_nearest (l : Launch) (p0 : Int32) (p1 : Int32) (P : Int32 → Prop) (hw : wp_X2_nearest p0 p1 P) : Met l yX2_nearest wX2_nearest rm_X2_nearest (xP0 [.int p0, .int p1]) (vp_Si P) 0 0 (fun _ => False) := by
  refine Met.ofW (cc := cX2_nearest) (maxL := 2) (ret := (some .int)) (by decide) rfl ?_
  intro p e s m args below meth c s₁ B hml hv
  obtain ⟨hargs, -⟩ := hv
  have hx := B.exec
  have hb := B.bytes
  have hr := B.returns
  have hts := atoms_spec (ws := wX2_nearest) B.pre
  have hown : s.vm.findClass RX2 = some m.cls := findClass_of_methodNamed B.named
  have hlocks := B.notSynchronized
  have hl := lv_entry ([.int p0, .int p1]) (n := 2) (Nat.le_of_ble_eq_true rfl)
  rw [show entryFrame m args 2 = entryFrame m (([.int p0, .int p1] : List Value).toArray) 2 from by rw [hargs], lg_entry_eq]
  generalize (lg_sl ([.int p0, .int p1]) ++ List.replicate (2 - (lg_sl ([.int p0, .int p1])).length) Slot.unset).toArray = ls at hl ⊢
  have hl : lv_has ls 2 [(0, .int p0), (1, .int p1)] := hl
  refine lv_iload_n hx hb dX2_nearest_0 rfl (lv_at hl 1 rfl) ?_
  refine lv_if_gt (tgt := 6) hx hb dX2_nearest_1 (by decide) (fun c1 => ?_) (fun c1 => ?_)
  · replace hw := And.left hw c1
    refine lv_sipush (v := 255) hx hb dX2_nearest_6 (by decide) ?_
    refine lv_iload_n hx hb dX2_nearest_9 rfl (lv_at hl 0 rfl) ?_
    refine lv_iload_n hx hb dX2_nearest_10 rfl (lv_at hl 1 rfl) ?_
    refine lv_iconst (v := 2) hx hb dX2_nearest_11 (by decide) ?_
    refine lv_idiv hx hb dX2_nearest_12 (by decide) ?_
    refine lv_iadd hx hb dX2_nearest_13 ?_
    refine lv_iload_n hx hb dX2_nearest_14 rfl (lv_at hl 1 rfl) ?_
    refine lv_idiv hx hb dX2_nearest_15 (And.left hw) ?_
    replace hw := And.right hw
    refine va_mmin hx hb (hml.trans hl.1.symm) hown (hts _ (xm m324)) (hts _ (xm m44)) (hts _ (xm m22)) (hts _ (xm m45)) (Nat.le_of_ble_eq_true rfl) (Nat.le_of_ble_eq_true rfl) (Nat.le_of_ble_eq_true rfl) (Nat.le_of_ble_eq_true rfl) dX2_nearest_16 ?_
    exact W.iret hx hb hr (fun t ht hW => ⟨_, rfl, hw, ht⟩) (fun q h => by cases h) dX2_nearest_19
  · replace hw := And.right hw c1
    refine lv_iconst (v := 0) hx hb dX2_nearest_4 (by decide) ?_
    exact W.iret hx hb hr (fun t ht hW => ⟨_, rfl, hw, ht⟩) (fun q h => by cases h) dX2_nearest_5
abbrev wX2_bandOf : List Cond := Cond.code yX2_bandOf cX2_bandOf 2 (some .int) :: gG
def wp_X2_bandOf (p0 : Int32) (p1 : Int32) (P : Int32 → Prop) : Prop :=
  P ((p0 >>> ((8 * p1) &&& 31)) &&& 255)
abbrev rm_X2_bandOf : Room := { frames := 0, cells := 0, slots := 0, locals := 0 }
set_option maxHeartbeats 4000000 in
set_option maxRecDepth 100000 in
theorem c_X2_bandOf (l : Launch) (p0 : Int32) (p1 : Int32) (P : Int32 → Prop) (hw : wp_X2_bandOf p0 p1 P) : Met l yX2_bandOf wX2_bandOf rm_X2_bandOf (xP0 [.int p0, .int p1]) (vp_Si P) 0 0 (fun _ => False) := by
  refine Met.ofW (cc := cX2_bandOf) (maxL := 2) (ret := (some .int)) (by decide) rfl ?_
  intro p e s m args below meth c s₁ B hml hv
  obtain ⟨hargs, -⟩ := hv
  have hx := B.exec
  have hb := B.bytes
  have hr := B.returns
  have hts := atoms_spec (ws := wX2_bandOf) B.pre
  have hown : s.vm.findClass RX2 = some m.cls := findClass_of_methodNamed B.named
  have hlocks := B.notSynchronized
  have hl := lv_entry ([.int p0, .int p1]) (n := 2) (Nat.le_of_ble_eq_true rfl)
  rw [show entryFrame m args 2 = entryFrame m (([.int p0, .int p1] : List Value).toArray) 2 from by rw [hargs], lg_entry_eq]
  generalize (lg_sl ([.int p0, .int p1]) ++ List.replicate (2 - (lg_sl ([.int p0, .int p1])).length) Slot.unset).toArray = ls at hl ⊢
  have hl : lv_has ls 2 [(0, .int p0), (1, .int p1)] := hl
  refine lv_iload_n hx hb dX2_bandOf_0 rfl (lv_at hl 0 rfl) ?_
  refine lv_bipush (v := 8) hx hb dX2_bandOf_1 (by decide) ?_
  refine lv_iload_n hx hb dX2_bandOf_3 rfl (lv_at hl 1 rfl) ?_
  refine lv_imul hx hb dX2_bandOf_4 ?_
  refine lv_ishr hx hb dX2_bandOf_5 ?_
  refine lv_sipush (v := 255) hx hb dX2_bandOf_6 (by decide) ?_
  refine lv_iand hx hb dX2_bandOf_9 ?_
  exact W.iret hx hb hr (fun t ht hW => ⟨_, rfl, hw, ht⟩) (fun q h => by cases h) dX2_bandOf_10
abbrev wX2_packed : List Cond := Cond.code yX2_packed cX2_packed 3 (some .int) :: gG
def wp_X2_packed (p0 : Int32) (p1 : Int32) (p2 : Int32) (P : Int32 → Prop) : Prop :=
  P ((p0 ||| (p1 <<< (8 &&& 31))) ||| (p2 <<< (16 &&& 31)))
abbrev rm_X2_packed : Room := { frames := 0, cells := 0, slots := 0, locals := 0 }
set_option maxHeartbeats 4000000 in
set_option maxRecDepth 100000 in
theorem c_X2_packed (l : Launch) (p0 : Int32) (p1 : Int32) (p2 : Int32) (P : Int32 → Prop) (hw : wp_X2_packed p0 p1 p2 P) : Met l yX2_packed wX2_packed rm_X2_packed (xP0 [.int p0, .int p1, .int p2]) (vp_Si P) 0 0 (fun _ => False) := by
  refine Met.ofW (cc := cX2_packed) (maxL := 3) (ret := (some .int)) (by decide) rfl ?_
  intro p e s m args below meth c s₁ B hml hv
  obtain ⟨hargs, -⟩ := hv
  have hx := B.exec
  have hb := B.bytes
  have hr := B.returns
  have hts := atoms_spec (ws := wX2_packed) B.pre
  have hown : s.vm.findClass RX2 = some m.cls := findClass_of_methodNamed B.named
  have hlocks := B.notSynchronized
  have hl := lv_entry ([.int p0, .int p1, .int p2]) (n := 3) (Nat.le_of_ble_eq_true rfl)
  rw [show entryFrame m args 3 = entryFrame m (([.int p0, .int p1, .int p2] : List Value).toArray) 3 from by rw [hargs], lg_entry_eq]
  generalize (lg_sl ([.int p0, .int p1, .int p2]) ++ List.replicate (3 - (lg_sl ([.int p0, .int p1, .int p2])).length) Slot.unset).toArray = ls at hl ⊢
  have hl : lv_has ls 3 [(0, .int p0), (1, .int p1), (2, .int p2)] := hl
  refine lv_iload_n hx hb dX2_packed_0 rfl (lv_at hl 0 rfl) ?_
  refine lv_iload_n hx hb dX2_packed_1 rfl (lv_at hl 1 rfl) ?_
  refine lv_bipush (v := 8) hx hb dX2_packed_2 (by decide) ?_
  refine lv_ishl hx hb dX2_packed_4 ?_
  refine lv_ior hx hb dX2_packed_5 ?_
  refine lv_iload_n hx hb dX2_packed_6 rfl (lv_at hl 2 rfl) ?_
  refine lv_bipush (v := 16) hx hb dX2_packed_7 (by decide) ?_
  refine lv_ishl hx hb dX2_packed_9 ?_
  refine lv_ior hx hb dX2_packed_10 ?_
  exact W.iret hx hb hr (fun t ht hW => ⟨_, rfl, hw, ht⟩) (fun q h => by cases h) dX2_packed_11
abbrev wX2_lum : List Cond := Cond.code yX2_lum cX2_lum 3 (some .int) :: gG
def wp_X2_lum (p0 : Int32) (p1 : Int32) (p2 : Int32) (P : Int32 → Prop) : Prop :=
  wp_J9_floorDiv (((30 * p0) + (59 * p1)) + (11 * p2)) 100 (fun r1 => P r1)
abbrev rm_X2_lum : Room := { frames := 1, cells := 0, slots := 0, locals := 22 }
set_option maxHeartbeats 4000000 in
set_option maxRecDepth 100000 in
theorem c_X2_lum (l : Launch) (p0 : Int32) (p1 : Int32) (p2 : Int32) (P : Int32 → Prop) (hw : wp_X2_lum p0 p1 p2 P) : Met l yX2_lum wX2_lum rm_X2_lum (xP0 [.int p0, .int p1, .int p2]) (vp_Si P) 0 0 (fun _ => False) := by
  refine Met.ofW (cc := cX2_lum) (maxL := 3) (ret := (some .int)) (by decide) rfl ?_
  intro p e s m args below meth c s₁ B hml hv
  obtain ⟨hargs, -⟩ := hv
  have hx := B.exec
  have hb := B.bytes
  have hr := B.returns
  have hts := atoms_spec (ws := wX2_lum) B.pre
  have hown : s.vm.findClass RX2 = some m.cls := findClass_of_methodNamed B.named
  have hlocks := B.notSynchronized
  have hl := lv_entry ([.int p0, .int p1, .int p2]) (n := 3) (Nat.le_of_ble_eq_true rfl)
  rw [show entryFrame m args 3 = entryFrame m (([.int p0, .int p1, .int p2] : List Value).toArray) 3 from by rw [hargs], lg_entry_eq]
  generalize (lg_sl ([.int p0, .int p1, .int p2]) ++ List.replicate (3 - (lg_sl ([.int p0, .int p1, .int p2])).length) Slot.unset).toArray = ls at hl ⊢
  have hl : lv_has ls 3 [(0, .int p0), (1, .int p1), (2, .int p2)] := hl
  refine lv_bipush (v := 30) hx hb dX2_lum_0 (by decide) ?_
  refine lv_iload_n hx hb dX2_lum_2 rfl (lv_at hl 0 rfl) ?_
  refine lv_imul hx hb dX2_lum_3 ?_
  refine lv_bipush (v := 59) hx hb dX2_lum_4 (by decide) ?_
  refine lv_iload_n hx hb dX2_lum_6 rfl (lv_at hl 1 rfl) ?_
  refine lv_imul hx hb dX2_lum_7 ?_
  refine lv_iadd hx hb dX2_lum_8 ?_
  refine lv_bipush (v := 11) hx hb dX2_lum_9 (by decide) ?_
  refine lv_iload_n hx hb dX2_lum_11 rfl (lv_at hl 2 rfl) ?_
  refine lv_imul hx hb dX2_lum_12 ?_
  refine lv_iadd hx hb dX2_lum_13 ?_
  refine lv_bipush (v := 100) hx hb dX2_lum_14 (by decide) ?_
  refine vp_callSi (va_Run.run (va_runS (As := [.int (((30 * p0) + (59 * p1)) + (11 * p2)), .int 100]) (rest := []) ⟨hx, hb, hml, hown, hts⟩ (c_J9_floorDiv l (((30 * p0) + (59 * p1)) + (11 * p2)) 100 _ hw) (gcS 2 hts m364 m362 m363 m22 rfl rfl (by decide +kernel) ⟨Nat.le_of_ble_eq_true rfl, Nat.le_of_ble_eq_true rfl⟩) ⟨xbl0, fun U hU hW => ⟨rfl, trivial⟩⟩ rfl rfl hl.1 rfl (lv_room (Nat.le_of_ble_eq_true rfl)) dX2_lum_16 ⟨Nat.le_of_ble_eq_true rfl, Nat.le_of_ble_eq_true rfl⟩)) (fun r1 hw => ?_)
  exact W.iret hx hb hr (fun t ht hW => ⟨_, rfl, hw, ht⟩) (fun q h => by cases h) dX2_lum_19
