theorem m24 : Cond.initialized yX4_mul.cls ∈ gG := gG_mk (i := 24) (by decide +kernel) (by decide +kernel)
theorem m619 : Cond.methodLink RX4 75 yX4_mul ∈ gG := gG_mk (i := 619) (by decide +kernel) (by decide +kernel)
theorem m620 : Cond.static yX4_mul ∈ gG := gG_mk (i := 620) (by decide +kernel) (by decide +kernel)
theorem m621 : Cond.code yX4_mul cX4_mul 2 (some .int) ∈ gG := gG_mk (i := 621) (by decide +kernel) (by decide +kernel)
theorem m656 : Cond.methodLink RX4 79 yX4_hard ∈ gG := gG_mk (i := 656) (by decide +kernel) (by decide +kernel)
theorem m657 : Cond.static yX4_hard ∈ gG := gG_mk (i := 657) (by decide +kernel) (by decide +kernel)
theorem m658 : Cond.code yX4_hard cX4_hard 3 (some .int) ∈ gG := gG_mk (i := 658) (by decide +kernel) (by decide +kernel)
theorem m659 : Cond.methodLink RX4 82 yX4_dodge ∈ gG := gG_mk (i := 659) (by decide +kernel) (by decide +kernel)
theorem m660 : Cond.static yX4_dodge ∈ gG := gG_mk (i := 660) (by decide +kernel) (by decide +kernel)
theorem m661 : Cond.code yX4_dodge cX4_dodge 2 (some .int) ∈ gG := gG_mk (i := 661) (by decide +kernel) (by decide +kernel)
theorem m662 : Cond.methodLink RX4 85 yX4_burn ∈ gG := gG_mk (i := 662) (by decide +kernel) (by decide +kernel)
theorem m663 : Cond.static yX4_burn ∈ gG := gG_mk (i := 663) (by decide +kernel) (by decide +kernel)
theorem m664 : Cond.code yX4_burn cX4_burn 2 (some .int) ∈ gG := gG_mk (i := 664) (by decide +kernel) (by decide +kernel)
theorem m665 : Cond.methodLink RX4 88 yX4_soft ∈ gG := gG_mk (i := 665) (by decide +kernel) (by decide +kernel)
theorem m666 : Cond.static yX4_soft ∈ gG := gG_mk (i := 666) (by decide +kernel) (by decide +kernel)
theorem m667 : Cond.code yX4_soft cX4_soft 3 (some .int) ∈ gG := gG_mk (i := 667) (by decide +kernel) (by decide +kernel)
abbrev wX4_mul : List Cond := Cond.code yX4_mul cX4_mul 2 (some .int) :: gG
def wp_X4_mul (p0 : Int32) (p1 : Int32) (P : Int32 → Prop) : Prop :=
  P (((p0 * p1) + 127) / 255)
abbrev rm_X4_mul : Room := { frames := 0, cells := 0, slots := 0, locals := 0 }
set_option maxHeartbeats 4000000 in
set_option maxRecDepth 100000 in
theorem c_X4_mul (l : Launch) (p0 : Int32) (p1 : Int32) (P : Int32 → Prop) (hw : wp_X4_mul p0 p1 P) : Met l yX4_mul wX4_mul rm_X4_mul (xP0 [.int p0, .int p1]) (vp_Si P) 0 0 (fun _ => False) := by
  refine Met.ofW (cc := cX4_mul) (maxL := 2) (ret := (some .int)) (by decide) rfl ?_
  intro p e s m args below meth c s₁ B hml hv
  obtain ⟨hargs, -⟩ := hv
  have hx := B.exec
  have hb := B.bytes
  have hr := B.returns
  have hts := atoms_spec (ws := wX4_mul) B.pre
  have hown : s.vm.findClass RX4 = some m.cls := findClass_of_methodNamed B.named
  have hlocks := B.notSynchronized
  have hl := lv_entry ([.int p0, .int p1]) (n := 2) (Nat.le_of_ble_eq_true rfl)
  rw [show entryFrame m args 2 = entryFrame m (([.int p0, .int p1] : List Value).toArray) 2 from by rw [hargs], lg_entry_eq]
  generalize (lg_sl ([.int p0, .int p1]) ++ List.replicate (2 - (lg_sl ([.int p0, .int p1])).length) Slot.unset).toArray = ls at hl ⊢
  have hl : lv_has ls 2 [(0, .int p0), (1, .int p1)] := hl
  refine lv_iload_n hx hb dX4_mul_0 rfl (lv_at hl 0 rfl) ?_
  refine lv_iload_n hx hb dX4_mul_1 rfl (lv_at hl 1 rfl) ?_
  refine lv_imul hx hb dX4_mul_2 ?_
  refine lv_bipush (v := 127) hx hb dX4_mul_3 (by decide) ?_
  refine lv_iadd hx hb dX4_mul_5 ?_
  refine lv_sipush (v := 255) hx hb dX4_mul_6 (by decide) ?_
  refine lv_idiv hx hb dX4_mul_9 (by decide) ?_
  exact W.iret hx hb hr (fun t ht hW => ⟨_, rfl, hw, ht⟩) (fun q h => by cases h) dX4_mul_10
abbrev wX4_isByte : List Cond := Cond.code yX4_isByte cX4_isByte 1 (some .boolean) :: gG
def wp_X4_isByte (p0 : Int32) (P : Int32 → Prop) : Prop :=
  ((p0 < 0 → P 0) ∧
  (¬ p0 < 0 → ((255 < p0 → P 0) ∧
  (¬ 255 < p0 → P 1))))
abbrev rm_X4_isByte : Room := { frames := 0, cells := 0, slots := 0, locals := 0 }
set_option maxHeartbeats 4000000 in
set_option maxRecDepth 100000 in
theorem c_X4_isByte (l : Launch) (p0 : Int32) (P : Int32 → Prop) (hw : wp_X4_isByte p0 P) : Met l yX4_isByte wX4_isByte rm_X4_isByte (xP0 [.int p0]) (vp_Si P) 0 0 (fun _ => False) := by
  refine Met.ofW (cc := cX4_isByte) (maxL := 1) (ret := (some .boolean)) (by decide) rfl ?_
  intro p e s m args below meth c s₁ B hml hv
  obtain ⟨hargs, -⟩ := hv
  have hx := B.exec
  have hb := B.bytes
  have hr := B.returns
  have hts := atoms_spec (ws := wX4_isByte) B.pre
  have hown : s.vm.findClass RX4 = some m.cls := findClass_of_methodNamed B.named
  have hlocks := B.notSynchronized
  have hl := lv_entry ([.int p0]) (n := 1) (Nat.le_of_ble_eq_true rfl)
  rw [show entryFrame m args 1 = entryFrame m (([.int p0] : List Value).toArray) 1 from by rw [hargs], lg_entry_eq]
  generalize (lg_sl ([.int p0]) ++ List.replicate (1 - (lg_sl ([.int p0])).length) Slot.unset).toArray = ls at hl ⊢
  have hl : lv_has ls 1 [(0, .int p0)] := hl
  refine lv_iload_n hx hb dX4_isByte_0 rfl (lv_at hl 0 rfl) ?_
  refine lv_if_lt (tgt := 15) hx hb dX4_isByte_1 (by decide) (fun c2 => ?_) (fun c2 => ?_)
  · replace hw := And.left hw c2
    refine lv_iconst (v := 0) hx hb dX4_isByte_15 (by decide) ?_
    exact W.zret (ty := .boolean) hx hb hr rfl (fun t ht hW => ⟨_, rfl, hw, ht⟩) (fun q h => by cases h) dX4_isByte_16
  · replace hw := And.right hw c2
    refine lv_iload_n hx hb dX4_isByte_4 rfl (lv_at hl 0 rfl) ?_
    refine lv_sipush (v := 255) hx hb dX4_isByte_5 (by decide) ?_
    refine lv_icmp_gt (tgt := 15) hx hb dX4_isByte_8 (by decide) (fun c1 => ?_) (fun c1 => ?_)
    · replace hw := And.left hw c1
      refine lv_iconst (v := 0) hx hb dX4_isByte_15 (by decide) ?_
      exact W.zret (ty := .boolean) hx hb hr rfl (fun t ht hW => ⟨_, rfl, hw, ht⟩) (fun q h => by cases h) dX4_isByte_16
    · replace hw := And.right hw c1
      refine lv_iconst (v := 1) hx hb dX4_isByte_11 (by decide) ?_
      refine lv_goto (tgt := 16) hx hb dX4_isByte_12 (by decide) ?_
      exact W.zret (ty := .boolean) hx hb hr rfl (fun t ht hW => ⟨_, rfl, hw, ht⟩) (fun q h => by cases h) dX4_isByte_16
abbrev wX4_isBand : List Cond := Cond.code yX4_isBand cX4_isBand 1 (some .boolean) :: gG
def wp_X4_isBand (p0 : Int32) (P : Int32 → Prop) : Prop :=
  ((p0 < 0 → P 0) ∧
  (¬ p0 < 0 → ((3 ≤ p0 → P 0) ∧
  (¬ 3 ≤ p0 → P 1))))
abbrev rm_X4_isBand : Room := { frames := 0, cells := 0, slots := 0, locals := 0 }
set_option maxHeartbeats 4000000 in
set_option maxRecDepth 100000 in
theorem c_X4_isBand (l : Launch) (p0 : Int32) (P : Int32 → Prop) (hw : wp_X4_isBand p0 P) : Met l yX4_isBand wX4_isBand rm_X4_isBand (xP0 [.int p0]) (vp_Si P) 0 0 (fun _ => False) := by
  refine Met.ofW (cc := cX4_isBand) (maxL := 1) (ret := (some .boolean)) (by decide) rfl ?_
  intro p e s m args below meth c s₁ B hml hv
  obtain ⟨hargs, -⟩ := hv
  have hx := B.exec
  have hb := B.bytes
  have hr := B.returns
  have hts := atoms_spec (ws := wX4_isBand) B.pre
  have hown : s.vm.findClass RX4 = some m.cls := findClass_of_methodNamed B.named
  have hlocks := B.notSynchronized
  have hl := lv_entry ([.int p0]) (n := 1) (Nat.le_of_ble_eq_true rfl)
  rw [show entryFrame m args 1 = entryFrame m (([.int p0] : List Value).toArray) 1 from by rw [hargs], lg_entry_eq]
  generalize (lg_sl ([.int p0]) ++ List.replicate (1 - (lg_sl ([.int p0])).length) Slot.unset).toArray = ls at hl ⊢
  have hl : lv_has ls 1 [(0, .int p0)] := hl
  refine lv_iload_n hx hb dX4_isBand_0 rfl (lv_at hl 0 rfl) ?_
  refine lv_if_lt (tgt := 13) hx hb dX4_isBand_1 (by decide) (fun c2 => ?_) (fun c2 => ?_)
  · replace hw := And.left hw c2
    refine lv_iconst (v := 0) hx hb dX4_isBand_13 (by decide) ?_
    exact W.zret (ty := .boolean) hx hb hr rfl (fun t ht hW => ⟨_, rfl, hw, ht⟩) (fun q h => by cases h) dX4_isBand_14
  · replace hw := And.right hw c2
    refine lv_iload_n hx hb dX4_isBand_4 rfl (lv_at hl 0 rfl) ?_
    refine lv_iconst (v := 3) hx hb dX4_isBand_5 (by decide) ?_
    refine lv_icmp_ge (tgt := 13) hx hb dX4_isBand_6 (by decide) (fun c1 => ?_) (fun c1 => ?_)
    · replace hw := And.left hw c1
      refine lv_iconst (v := 0) hx hb dX4_isBand_13 (by decide) ?_
      exact W.zret (ty := .boolean) hx hb hr rfl (fun t ht hW => ⟨_, rfl, hw, ht⟩) (fun q h => by cases h) dX4_isBand_14
    · replace hw := And.right hw c1
      refine lv_iconst (v := 1) hx hb dX4_isBand_9 (by decide) ?_
      refine lv_goto (tgt := 14) hx hb dX4_isBand_10 (by decide) ?_
      exact W.zret (ty := .boolean) hx hb hr rfl (fun t ht hW => ⟨_, rfl, hw, ht⟩) (fun q h => by cases h) dX4_isBand_14
abbrev wX4_dodge : List Cond := Cond.code yX4_dodge cX4_dodge 2 (some .int) :: gG
def wp_X4_dodge (p0 : Int32) (p1 : Int32) (P : Int32 → Prop) : Prop :=
  ((¬ p0 = 0 → (((p0 + p1) < 255 → (¬ (255 - p1) = 0 ∧ P (((255 * p0) + ((255 - p1) / 2)) / (255 - p1)))) ∧
  (¬ (p0 + p1) < 255 → P 255))) ∧
  (p0 = 0 → P 0))
abbrev rm_X4_dodge : Room := { frames := 0, cells := 0, slots := 0, locals := 0 }
set_option maxHeartbeats 4000000 in
set_option maxRecDepth 100000 in
theorem c_X4_dodge (l : Launch) (p0 : Int32) (p1 : Int32) (P : Int32 → Prop) (hw : wp_X4_dodge p0 p1 P) : Met l yX4_dodge wX4_dodge rm_X4_dodge (xP0 [.int p0, .int p1]) (vp_Si P) 0 0 (fun _ => False) := by
  refine Met.ofW (cc := cX4_dodge) (maxL := 2) (ret := (some .int)) (by decide) rfl ?_
  intro p e s m args below meth c s₁ B hml hv
  obtain ⟨hargs, -⟩ := hv
  have hx := B.exec
  have hb := B.bytes
  have hr := B.returns
  have hts := atoms_spec (ws := wX4_dodge) B.pre
  have hown : s.vm.findClass RX4 = some m.cls := findClass_of_methodNamed B.named
  have hlocks := B.notSynchronized
  have hl := lv_entry ([.int p0, .int p1]) (n := 2) (Nat.le_of_ble_eq_true rfl)
  rw [show entryFrame m args 2 = entryFrame m (([.int p0, .int p1] : List Value).toArray) 2 from by rw [hargs], lg_entry_eq]
  generalize (lg_sl ([.int p0, .int p1]) ++ List.replicate (2 - (lg_sl ([.int p0, .int p1])).length) Slot.unset).toArray = ls at hl ⊢
  have hl : lv_has ls 2 [(0, .int p0), (1, .int p1)] := hl
  refine lv_iload_n hx hb dX4_dodge_0 rfl (lv_at hl 0 rfl) ?_
  refine lv_if_ne (tgt := 6) hx hb dX4_dodge_1 (by decide) (fun c2 => ?_) (fun c2 => ?_)
  · replace hw := And.left hw c2
    refine lv_iload_n hx hb dX4_dodge_6 rfl (lv_at hl 0 rfl) ?_
    refine lv_iload_n hx hb dX4_dodge_7 rfl (lv_at hl 1 rfl) ?_
    refine lv_iadd hx hb dX4_dodge_8 ?_
    refine lv_sipush (v := 255) hx hb dX4_dodge_9 (by decide) ?_
    refine lv_icmp_lt (tgt := 21) hx hb dX4_dodge_12 (by decide) (fun c1 => ?_) (fun c1 => ?_)
    · replace hw := And.left hw c1
      refine lv_sipush (v := 255) hx hb dX4_dodge_21 (by decide) ?_
      refine lv_iload_n hx hb dX4_dodge_24 rfl (lv_at hl 0 rfl) ?_
      refine lv_imul hx hb dX4_dodge_25 ?_
      refine lv_sipush (v := 255) hx hb dX4_dodge_26 (by decide) ?_
      refine lv_iload_n hx hb dX4_dodge_29 rfl (lv_at hl 1 rfl) ?_
      refine lv_isub hx hb dX4_dodge_30 ?_
      refine lv_iconst (v := 2) hx hb dX4_dodge_31 (by decide) ?_
      refine lv_idiv hx hb dX4_dodge_32 (by decide) ?_
      refine lv_iadd hx hb dX4_dodge_33 ?_
      refine lv_sipush (v := 255) hx hb dX4_dodge_34 (by decide) ?_
      refine lv_iload_n hx hb dX4_dodge_37 rfl (lv_at hl 1 rfl) ?_
      refine lv_isub hx hb dX4_dodge_38 ?_
      refine lv_idiv hx hb dX4_dodge_39 (And.left hw) ?_
      replace hw := And.right hw
      exact W.iret hx hb hr (fun t ht hW => ⟨_, rfl, hw, ht⟩) (fun q h => by cases h) dX4_dodge_40
    · replace hw := And.right hw c1
      refine lv_sipush (v := 255) hx hb dX4_dodge_15 (by decide) ?_
      refine lv_goto (tgt := 40) hx hb dX4_dodge_18 (by decide) ?_
      exact W.iret hx hb hr (fun t ht hW => ⟨_, rfl, hw, ht⟩) (fun q h => by cases h) dX4_dodge_40
  · replace hw := And.right hw c2
    refine lv_iconst (v := 0) hx hb dX4_dodge_4 (by decide) ?_
    exact W.iret hx hb hr (fun t ht hW => ⟨_, rfl, hw, ht⟩) (fun q h => by cases h) dX4_dodge_5
abbrev wX4_burn : List Cond := Cond.code yX4_burn cX4_burn 2 (some .int) :: gG
def wp_X4_burn (p0 : Int32) (p1 : Int32) (P : Int32 → Prop) : Prop :=
  ((¬ p0 = 255 → ((255 < (p0 + p1) → (¬ p1 = 0 ∧ P (255 - (((255 * (255 - p0)) + (p1 / 2)) / p1)))) ∧
  (¬ 255 < (p0 + p1) → P 0))) ∧
  (p0 = 255 → P 255))
abbrev rm_X4_burn : Room := { frames := 0, cells := 0, slots := 0, locals := 0 }
set_option maxHeartbeats 4000000 in
set_option maxRecDepth 100000 in
theorem c_X4_burn (l : Launch) (p0 : Int32) (p1 : Int32) (P : Int32 → Prop) (hw : wp_X4_burn p0 p1 P) : Met l yX4_burn wX4_burn rm_X4_burn (xP0 [.int p0, .int p1]) (vp_Si P) 0 0 (fun _ => False) := by
  refine Met.ofW (cc := cX4_burn) (maxL := 2) (ret := (some .int)) (by decide) rfl ?_
  intro p e s m args below meth c s₁ B hml hv
  obtain ⟨hargs, -⟩ := hv
  have hx := B.exec
  have hb := B.bytes
  have hr := B.returns
  have hts := atoms_spec (ws := wX4_burn) B.pre
  have hown : s.vm.findClass RX4 = some m.cls := findClass_of_methodNamed B.named
  have hlocks := B.notSynchronized
  have hl := lv_entry ([.int p0, .int p1]) (n := 2) (Nat.le_of_ble_eq_true rfl)
  rw [show entryFrame m args 2 = entryFrame m (([.int p0, .int p1] : List Value).toArray) 2 from by rw [hargs], lg_entry_eq]
  generalize (lg_sl ([.int p0, .int p1]) ++ List.replicate (2 - (lg_sl ([.int p0, .int p1])).length) Slot.unset).toArray = ls at hl ⊢
  have hl : lv_has ls 2 [(0, .int p0), (1, .int p1)] := hl
  refine lv_iload_n hx hb dX4_burn_0 rfl (lv_at hl 0 rfl) ?_
  refine lv_sipush (v := 255) hx hb dX4_burn_1 (by decide) ?_
  refine lv_icmp_ne (tgt := 11) hx hb dX4_burn_4 (by decide) (fun c2 => ?_) (fun c2 => ?_)
  · replace hw := And.left hw c2
    refine lv_iload_n hx hb dX4_burn_11 rfl (lv_at hl 0 rfl) ?_
    refine lv_iload_n hx hb dX4_burn_12 rfl (lv_at hl 1 rfl) ?_
    refine lv_iadd hx hb dX4_burn_13 ?_
    refine lv_sipush (v := 255) hx hb dX4_burn_14 (by decide) ?_
    refine lv_icmp_gt (tgt := 24) hx hb dX4_burn_17 (by decide) (fun c1 => ?_) (fun c1 => ?_)
    · replace hw := And.left hw c1
      refine lv_sipush (v := 255) hx hb dX4_burn_24 (by decide) ?_
      refine lv_sipush (v := 255) hx hb dX4_burn_27 (by decide) ?_
      refine lv_sipush (v := 255) hx hb dX4_burn_30 (by decide) ?_
      refine lv_iload_n hx hb dX4_burn_33 rfl (lv_at hl 0 rfl) ?_
      refine lv_isub hx hb dX4_burn_34 ?_
      refine lv_imul hx hb dX4_burn_35 ?_
      refine lv_iload_n hx hb dX4_burn_36 rfl (lv_at hl 1 rfl) ?_
      refine lv_iconst (v := 2) hx hb dX4_burn_37 (by decide) ?_
      refine lv_idiv hx hb dX4_burn_38 (by decide) ?_
      refine lv_iadd hx hb dX4_burn_39 ?_
      refine lv_iload_n hx hb dX4_burn_40 rfl (lv_at hl 1 rfl) ?_
      refine lv_idiv hx hb dX4_burn_41 (And.left hw) ?_
      replace hw := And.right hw
      refine lv_isub hx hb dX4_burn_42 ?_
      exact W.iret hx hb hr (fun t ht hW => ⟨_, rfl, hw, ht⟩) (fun q h => by cases h) dX4_burn_43
    · replace hw := And.right hw c1
      refine lv_iconst (v := 0) hx hb dX4_burn_20 (by decide) ?_
      refine lv_goto (tgt := 43) hx hb dX4_burn_21 (by decide) ?_
      exact W.iret hx hb hr (fun t ht hW => ⟨_, rfl, hw, ht⟩) (fun q h => by cases h) dX4_burn_43
  · replace hw := And.right hw c2
    refine lv_sipush (v := 255) hx hb dX4_burn_7 (by decide) ?_
    exact W.iret hx hb hr (fun t ht hW => ⟨_, rfl, hw, ht⟩) (fun q h => by cases h) dX4_burn_10
abbrev wX4_hard : List Cond := Cond.code yX4_hard cX4_hard 3 (some .int) :: gG
def wp_X4_hard (p0 : Int32) (p1 : Int32) (P : Int32 → Prop) : Prop :=
  ((127 < p1 → ∀ v1 : Int32, v1 = ((2 * p1) - 255) → wp_X4_mul p0 v1 (fun r2 => P ((p0 + v1) - r2))) ∧
  (¬ 127 < p1 → wp_X4_mul p0 (2 * p1) (fun r3 => P r3)))
abbrev rm_X4_hard : Room := { frames := 1, cells := 0, slots := 0, locals := 21 }
set_option maxHeartbeats 4000000 in
set_option maxRecDepth 100000 in
theorem c_X4_hard (l : Launch) (p0 : Int32) (p1 : Int32) (P : Int32 → Prop) (hw : wp_X4_hard p0 p1 P) : Met l yX4_hard wX4_hard rm_X4_hard (xP0 [.int p0, .int p1]) (vp_Si P) 0 0 (fun _ => False) := by
  refine Met.ofW (cc := cX4_hard) (maxL := 3) (ret := (some .int)) (by decide) rfl ?_
  intro p e s m args below meth c s₁ B hml hv
  obtain ⟨hargs, -⟩ := hv
  have hx := B.exec
  have hb := B.bytes
  have hr := B.returns
  have hts := atoms_spec (ws := wX4_hard) B.pre
  have hown : s.vm.findClass RX4 = some m.cls := findClass_of_methodNamed B.named
  have hlocks := B.notSynchronized
  have hl := lv_entry ([.int p0, .int p1]) (n := 3) (Nat.le_of_ble_eq_true rfl)
  rw [show entryFrame m args 3 = entryFrame m (([.int p0, .int p1] : List Value).toArray) 3 from by rw [hargs], lg_entry_eq]
  generalize (lg_sl ([.int p0, .int p1]) ++ List.replicate (3 - (lg_sl ([.int p0, .int p1])).length) Slot.unset).toArray = ls at hl ⊢
  have hl : lv_has ls 3 [(0, .int p0), (1, .int p1)] := hl
  refine lv_iload_n hx hb dX4_hard_0 rfl (lv_at hl 1 rfl) ?_
  refine lv_bipush (v := 127) hx hb dX4_hard_1 (by decide) ?_
  refine lv_icmp_gt (tgt := 14) hx hb dX4_hard_3 (by decide) (fun c4 => ?_) (fun c4 => ?_)
  · replace hw := And.left hw c4
    refine lv_iconst (v := 2) hx hb dX4_hard_14 (by decide) ?_
    refine lv_iload_n hx hb dX4_hard_15 rfl (lv_at hl 1 rfl) ?_
    refine lv_imul hx hb dX4_hard_16 ?_
    refine lv_sipush (v := 255) hx hb dX4_hard_17 (by decide) ?_
    refine lv_isub hx hb dX4_hard_20 ?_
    refine lv_topi (fun v1 e_v1 => ?_)
    replace hw := hw v1 e_v1
    refine lv_istore_n (lv' := [(2, .int v1), (0, .int p0), (1, .int p1)]) hx hb dX4_hard_21 rfl hl (by decide) rfl (fun ls hl => ?_)
    refine lv_iload_n hx hb dX4_hard_22 rfl (lv_at hl 1 rfl) ?_
    refine lv_iload_n hx hb dX4_hard_23 rfl (lv_at hl 0 rfl) ?_
    refine lv_iadd hx hb dX4_hard_24 ?_
    refine lv_iload_n hx hb dX4_hard_25 rfl (lv_at hl 1 rfl) ?_
    refine lv_iload_n hx hb dX4_hard_26 rfl (lv_at hl 0 rfl) ?_
    refine vp_callSi (va_Run.run (va_runS (As := [.int p0, .int v1]) (rest := [.int (p0 + v1)]) ⟨hx, hb, hml, hown, hts⟩ (c_X4_mul l p0 v1 _ hw) (gcS 2 hts m621 m619 m620 m24 rfl rfl (by decide +kernel) ⟨Nat.le_of_ble_eq_true rfl, Nat.le_of_ble_eq_true rfl⟩) ⟨xbl0, fun U hU hW => ⟨rfl, trivial⟩⟩ rfl rfl hl.1 rfl (lv_room (Nat.le_of_ble_eq_true rfl)) dX4_hard_27 ⟨Nat.le_of_ble_eq_true rfl, Nat.le_of_ble_eq_true rfl⟩)) (fun r2 hw => ?_)
    refine lv_isub hx hb dX4_hard_30 ?_
    exact W.iret hx hb hr (fun t ht hW => ⟨_, rfl, hw, ht⟩) (fun q h => by cases h) dX4_hard_31
  · replace hw := And.right hw c4
    refine lv_iload_n hx hb dX4_hard_6 rfl (lv_at hl 0 rfl) ?_
    refine lv_iconst (v := 2) hx hb dX4_hard_7 (by decide) ?_
    refine lv_iload_n hx hb dX4_hard_8 rfl (lv_at hl 1 rfl) ?_
    refine lv_imul hx hb dX4_hard_9 ?_
    refine vp_callSi (va_Run.run (va_runS (As := [.int p0, .int (2 * p1)]) (rest := []) ⟨hx, hb, hml, hown, hts⟩ (c_X4_mul l p0 (2 * p1) _ hw) (gcS 2 hts m621 m619 m620 m24 rfl rfl (by decide +kernel) ⟨Nat.le_of_ble_eq_true rfl, Nat.le_of_ble_eq_true rfl⟩) ⟨xbl0, fun U hU hW => ⟨rfl, trivial⟩⟩ rfl rfl hl.1 rfl (lv_room (Nat.le_of_ble_eq_true rfl)) dX4_hard_10 ⟨Nat.le_of_ble_eq_true rfl, Nat.le_of_ble_eq_true rfl⟩)) (fun r3 hw => ?_)
    exact W.iret hx hb hr (fun t ht hW => ⟨_, rfl, hw, ht⟩) (fun q h => by cases h) dX4_hard_13
abbrev wX4_soft : List Cond := Cond.code yX4_soft cX4_soft 3 (some .int) :: gG
def wp_X4_soft_35 (KX : Int32 → Prop) (x0 : Int32) (x1 : Int32) : Nat → Int32 → Prop
  | 0, _ => False
  | N35 + 1, x2 =>
    (((255 * x0) < ((x2 + 1) * (x2 + 1)) → KX x2) ∧
  (¬ (255 * x0) < ((x2 + 1) * (x2 + 1)) → ∀ v1 : Int32, v1 = x2 + 1 → wp_X4_soft_35 KX x0 x1 N35 v1))
def wp_X4_soft (p0 : Int32) (p1 : Int32) (P : Int32 → Prop) : Prop :=
  ((127 < p1 → (∃ N35, wp_X4_soft_35 (fun (y3 : Int32) => P (p0 + (((((2 * p1) - 255) * (y3 - p0)) + 127) / 255))) p0 p1 N35 0)) ∧
  (¬ 127 < p1 → wp_X4_mul p0 (255 - p0) (fun r4 => P (p0 - ((((255 - (2 * p1)) * r4) + 127) / 255)))))
abbrev rm_X4_soft : Room := { frames := 1, cells := 0, slots := 0, locals := 21 }
set_option maxHeartbeats 4000000 in
set_option maxRecDepth 100000 in
theorem c_X4_soft (l : Launch) (p0 : Int32) (p1 : Int32) (P : Int32 → Prop) (hw : wp_X4_soft p0 p1 P) : Met l yX4_soft wX4_soft rm_X4_soft (xP0 [.int p0, .int p1]) (vp_Si P) 0 0 (fun _ => False) := by
  refine Met.ofW (cc := cX4_soft) (maxL := 3) (ret := (some .int)) (by decide) rfl ?_
  intro p e s m args below meth c s₁ B hml hv
  obtain ⟨hargs, -⟩ := hv
  have hx := B.exec
  have hb := B.bytes
  have hr := B.returns
  have hts := atoms_spec (ws := wX4_soft) B.pre
  have hown : s.vm.findClass RX4 = some m.cls := findClass_of_methodNamed B.named
  have hlocks := B.notSynchronized
  have L35 : ∀ (KX : Int32 → Prop) (x0 : Int32) (x1 : Int32), (∀ (x2 : Int32), KX x2 → ∀ (ls : Array Slot), lv_has ls 3 [(0, .int x0), (1, .int x1), (2, .int x2)] → W p l e (headSpec wX4_soft rm_X4_soft).room s m args below meth c s.heap [] 0 0 (MQ below (vp_Si P) args s 0 0 (fun _ => False)) (F0 m 56 ls [])) → ∀ (N : Nat) (x2 : Int32), wp_X4_soft_35 KX x0 x1 N x2 → ∀ (ls : Array Slot), lv_has ls 3 [(0, .int x0), (1, .int x1), (2, .int x2)] → W p l e (headSpec wX4_soft rm_X4_soft).room s m args below meth c s.heap [] 0 0 (MQ below (vp_Si P) args s 0 0 (fun _ => False)) (F0 m 35 ls []) := by
    intro KX x0 x1 hx2 N35
    induction N35 with
    | zero =>
      intro x2 hw
      exact False.elim hw
    | succ N35 hk =>
      intro x2 hw ls hl
      rw [wp_X4_soft_35] at hw
      refine lv_iload_n hx hb dX4_soft_35 rfl (lv_at hl 2 rfl) ?_
      refine lv_iconst (v := 1) hx hb dX4_soft_36 (by decide) ?_
      refine lv_iadd hx hb dX4_soft_37 ?_
      refine lv_iload_n hx hb dX4_soft_38 rfl (lv_at hl 2 rfl) ?_
      refine lv_iconst (v := 1) hx hb dX4_soft_39 (by decide) ?_
      refine lv_iadd hx hb dX4_soft_40 ?_
      refine lv_imul hx hb dX4_soft_41 ?_
      refine lv_sipush (v := 255) hx hb dX4_soft_42 (by decide) ?_
      refine lv_iload_n hx hb dX4_soft_45 rfl (lv_at hl 0 rfl) ?_
      refine lv_imul hx hb dX4_soft_46 ?_
      refine lv_icmp_gt (tgt := 56) hx hb dX4_soft_47 (by decide) (fun c2 => ?_) (fun c2 => ?_)
      · replace hw := And.left hw c2
        exact hx2 _ hw _ (lv_sub hl [0, 1, 2] rfl)
      · replace hw := And.right hw c2
        obtain ⟨v1, e_v1⟩ : ∃ y : Int32, y = x2 + 1 := ⟨_, rfl⟩
        replace hw := hw v1 e_v1
        refine lv_iinc (v := v1) (lv' := [(2, .int v1), (0, .int x0), (1, .int x1)]) hx hb dX4_soft_50 hl (k := 2) rfl (by rw [e_v1]; rfl) (by decide) rfl (fun ls hl => ?_)
        refine lv_goto (tgt := 35) hx hb dX4_soft_53 (by decide) ?_
        exact hk _ hw _ (lv_sub hl [1, 2, 0] rfl)
  have hl := lv_entry ([.int p0, .int p1]) (n := 3) (Nat.le_of_ble_eq_true rfl)
  rw [show entryFrame m args 3 = entryFrame m (([.int p0, .int p1] : List Value).toArray) 3 from by rw [hargs], lg_entry_eq]
  generalize (lg_sl ([.int p0, .int p1]) ++ List.replicate (3 - (lg_sl ([.int p0, .int p1])).length) Slot.unset).toArray = ls at hl ⊢
  have hl : lv_has ls 3 [(0, .int p0), (1, .int p1)] := hl
  refine lv_iload_n hx hb dX4_soft_0 rfl (lv_at hl 1 rfl) ?_
  refine lv_bipush (v := 127) hx hb dX4_soft_1 (by decide) ?_
  refine lv_icmp_gt (tgt := 33) hx hb dX4_soft_3 (by decide) (fun c5 => ?_) (fun c5 => ?_)
  · replace hw := And.left hw c5
    refine lv_iconst (v := 0) hx hb dX4_soft_33 (by decide) ?_
    refine lv_istore_n (lv' := [(2, .int 0), (0, .int p0), (1, .int p1)]) hx hb dX4_soft_34 rfl hl (by decide) rfl (fun ls hl => ?_)
    obtain ⟨N35, hw⟩ := hw
    refine L35 _ _ _ (fun y3 hw ls hl => ?_) N35 _ hw _ (lv_sub hl [1, 2, 0] rfl)
    refine lv_iload_n hx hb dX4_soft_56 rfl (lv_at hl 0 rfl) ?_
    refine lv_iconst (v := 2) hx hb dX4_soft_57 (by decide) ?_
    refine lv_iload_n hx hb dX4_soft_58 rfl (lv_at hl 1 rfl) ?_
    refine lv_imul hx hb dX4_soft_59 ?_
    refine lv_sipush (v := 255) hx hb dX4_soft_60 (by decide) ?_
    refine lv_isub hx hb dX4_soft_63 ?_
    refine lv_iload_n hx hb dX4_soft_64 rfl (lv_at hl 2 rfl) ?_
    refine lv_iload_n hx hb dX4_soft_65 rfl (lv_at hl 0 rfl) ?_
    refine lv_isub hx hb dX4_soft_66 ?_
    refine lv_imul hx hb dX4_soft_67 ?_
    refine lv_bipush (v := 127) hx hb dX4_soft_68 (by decide) ?_
    refine lv_iadd hx hb dX4_soft_70 ?_
    refine lv_sipush (v := 255) hx hb dX4_soft_71 (by decide) ?_
    refine lv_idiv hx hb dX4_soft_74 (by decide) ?_
    refine lv_iadd hx hb dX4_soft_75 ?_
    exact W.iret hx hb hr (fun t ht hW => ⟨_, rfl, hw, ht⟩) (fun q h => by cases h) dX4_soft_76
  · replace hw := And.right hw c5
    refine lv_iload_n hx hb dX4_soft_6 rfl (lv_at hl 0 rfl) ?_
    refine lv_sipush (v := 255) hx hb dX4_soft_7 (by decide) ?_
    refine lv_iconst (v := 2) hx hb dX4_soft_10 (by decide) ?_
    refine lv_iload_n hx hb dX4_soft_11 rfl (lv_at hl 1 rfl) ?_
    refine lv_imul hx hb dX4_soft_12 ?_
    refine lv_isub hx hb dX4_soft_13 ?_
    refine lv_iload_n hx hb dX4_soft_14 rfl (lv_at hl 0 rfl) ?_
    refine lv_sipush (v := 255) hx hb dX4_soft_15 (by decide) ?_
    refine lv_iload_n hx hb dX4_soft_18 rfl (lv_at hl 0 rfl) ?_
    refine lv_isub hx hb dX4_soft_19 ?_
    refine vp_callSi (va_Run.run (va_runS (As := [.int p0, .int (255 - p0)]) (rest := [.int (255 - (2 * p1)), .int p0]) ⟨hx, hb, hml, hown, hts⟩ (c_X4_mul l p0 (255 - p0) _ hw) (gcS 2 hts m621 m619 m620 m24 rfl rfl (by decide +kernel) ⟨Nat.le_of_ble_eq_true rfl, Nat.le_of_ble_eq_true rfl⟩) ⟨xbl0, fun U hU hW => ⟨rfl, trivial⟩⟩ rfl rfl hl.1 rfl (lv_room (Nat.le_of_ble_eq_true rfl)) dX4_soft_20 ⟨Nat.le_of_ble_eq_true rfl, Nat.le_of_ble_eq_true rfl⟩)) (fun r4 hw => ?_)
    refine lv_imul hx hb dX4_soft_23 ?_
    refine lv_bipush (v := 127) hx hb dX4_soft_24 (by decide) ?_
    refine lv_iadd hx hb dX4_soft_26 ?_
    refine lv_sipush (v := 255) hx hb dX4_soft_27 (by decide) ?_
    refine lv_idiv hx hb dX4_soft_30 (by decide) ?_
    refine lv_isub hx hb dX4_soft_31 ?_
    exact W.iret hx hb hr (fun t ht hW => ⟨_, rfl, hw, ht⟩) (fun q h => by cases h) dX4_soft_32
abbrev wX4_ofBytes : List Cond := Cond.code yX4_ofBytes cX4_ofBytes 4 (some .int) :: gG
def wp_X4_ofBytes (p0 : Int32) (p1 : Int32) (p2 : Int32) (P : Int32 → Prop) : Prop :=
  ((4 ≤ p0 → ((8 ≤ p0 → ((10 ≤ p0 → wp_X4_mul p1 p2 (fun r1 => ∀ v2 : Int32, v2 = ((p1 + p2) - (2 * r1)) → ((¬ p0 = 10 → ((0 ≤ v2 → P v2) ∧
  (¬ 0 ≤ v2 → P 0))) ∧
  (p0 = 10 → ((p1 ≤ p2 → P (p2 - p1)) ∧
  (¬ p1 ≤ p2 → P (p1 - p2))))))) ∧
  (¬ 10 ≤ p0 → ((¬ p0 = 8 → wp_X4_soft p1 p2 (fun r6 => P r6)) ∧
  (p0 = 8 → wp_X4_hard p1 p2 (fun r7 => P r7)))))) ∧
  (¬ 8 ≤ p0 → ((¬ p0 = 4 → ((¬ p0 = 5 → ((¬ p0 = 6 → wp_X4_burn p1 p2 (fun r10 => P r10)) ∧
  (p0 = 6 → wp_X4_dodge p1 p2 (fun r11 => P r11)))) ∧
  (p0 = 5 → ((p1 ≤ p2 → P p2) ∧
  (¬ p1 ≤ p2 → P p1))))) ∧
  (p0 = 4 → ((p2 ≤ p1 → P p2) ∧
  (¬ p2 ≤ p1 → P p1))))))) ∧
  (¬ 4 ≤ p0 → ((¬ p0 = 0 → ((¬ p0 = 1 → ((¬ p0 = 2 → wp_X4_hard p2 p1 (fun r18 => P r18)) ∧
  (p0 = 2 → wp_X4_mul p1 p2 (fun r19 => P ((p1 + p2) - r19))))) ∧
  (p0 = 1 → wp_X4_mul p1 p2 (fun r21 => P r21)))) ∧
  (p0 = 0 → P p2))))
abbrev rm_X4_ofBytes : Room := { frames := 2, cells := 0, slots := 0, locals := 43 }
set_option maxHeartbeats 4000000 in
set_option maxRecDepth 100000 in
theorem c_X4_ofBytes (l : Launch) (p0 : Int32) (p1 : Int32) (p2 : Int32) (P : Int32 → Prop) (hw : wp_X4_ofBytes p0 p1 p2 P) : Met l yX4_ofBytes wX4_ofBytes rm_X4_ofBytes (xP0 [.int p0, .int p1, .int p2]) (vp_Si P) 0 0 (fun _ => False) := by
  refine Met.ofW (cc := cX4_ofBytes) (maxL := 4) (ret := (some .int)) (by decide) rfl ?_
  intro p e s m args below meth c s₁ B hml hv
  obtain ⟨hargs, -⟩ := hv
  have hx := B.exec
  have hb := B.bytes
  have hr := B.returns
  have hts := atoms_spec (ws := wX4_ofBytes) B.pre
  have hown : s.vm.findClass RX4 = some m.cls := findClass_of_methodNamed B.named
  have hlocks := B.notSynchronized
  have hl := lv_entry ([.int p0, .int p1, .int p2]) (n := 4) (Nat.le_of_ble_eq_true rfl)
  rw [show entryFrame m args 4 = entryFrame m (([.int p0, .int p1, .int p2] : List Value).toArray) 4 from by rw [hargs], lg_entry_eq]
  generalize (lg_sl ([.int p0, .int p1, .int p2]) ++ List.replicate (4 - (lg_sl ([.int p0, .int p1, .int p2])).length) Slot.unset).toArray = ls at hl ⊢
  have hl : lv_has ls 4 [(0, .int p0), (1, .int p1), (2, .int p2)] := hl
  refine lv_iload_n hx hb dX4_ofBytes_0 rfl (lv_at hl 0 rfl) ?_
  refine lv_iconst (v := 4) hx hb dX4_ofBytes_1 (by decide) ?_
  refine lv_icmp_ge (tgt := 49) hx hb dX4_ofBytes_2 (by decide) (fun c24 => ?_) (fun c24 => ?_)
  · replace hw := And.left hw c24
    refine lv_iload_n hx hb dX4_ofBytes_49 rfl (lv_at hl 0 rfl) ?_
    refine lv_bipush (v := 8) hx hb dX4_ofBytes_50 (by decide) ?_
    refine lv_icmp_ge (tgt := 111) hx hb dX4_ofBytes_52 (by decide) (fun c17 => ?_) (fun c17 => ?_)
    · replace hw := And.left hw c17
      refine lv_iload_n hx hb dX4_ofBytes_111 rfl (lv_at hl 0 rfl) ?_
      refine lv_bipush (v := 10) hx hb dX4_ofBytes_112 (by decide) ?_
      refine lv_icmp_ge (tgt := 137) hx hb dX4_ofBytes_114 (by decide) (fun c9 => ?_) (fun c9 => ?_)
      · replace hw := And.left hw c9
        refine lv_iload_n hx hb dX4_ofBytes_137 rfl (lv_at hl 1 rfl) ?_
        refine lv_iload_n hx hb dX4_ofBytes_138 rfl (lv_at hl 2 rfl) ?_
        refine lv_iadd hx hb dX4_ofBytes_139 ?_
        refine lv_iconst (v := 2) hx hb dX4_ofBytes_140 (by decide) ?_
        refine lv_iload_n hx hb dX4_ofBytes_141 rfl (lv_at hl 1 rfl) ?_
        refine lv_iload_n hx hb dX4_ofBytes_142 rfl (lv_at hl 2 rfl) ?_
        refine vp_callSi (va_Run.run (va_runS (As := [.int p1, .int p2]) (rest := [.int 2, .int (p1 + p2)]) ⟨hx, hb, hml, hown, hts⟩ (c_X4_mul l p1 p2 _ hw) (gcS 2 hts m621 m619 m620 m24 rfl rfl (by decide +kernel) ⟨Nat.le_of_ble_eq_true rfl, Nat.le_of_ble_eq_true rfl⟩) ⟨xbl0, fun U hU hW => ⟨rfl, trivial⟩⟩ rfl rfl hl.1 rfl (lv_room (Nat.le_of_ble_eq_true rfl)) dX4_ofBytes_143 ⟨Nat.le_of_ble_eq_true rfl, Nat.le_of_ble_eq_true rfl⟩)) (fun r1 hw => ?_)
        refine lv_imul hx hb dX4_ofBytes_146 ?_
        refine lv_isub hx hb dX4_ofBytes_147 ?_
        refine lv_topi (fun v2 e_v2 => ?_)
        replace hw := hw v2 e_v2
        refine lv_istore_n (lv' := [(3, .int v2), (0, .int p0), (1, .int p1), (2, .int p2)]) hx hb dX4_ofBytes_148 rfl hl (by decide) rfl (fun ls hl => ?_)
        refine lv_iload_n hx hb dX4_ofBytes_149 rfl (lv_at hl 1 rfl) ?_
        refine lv_bipush (v := 10) hx hb dX4_ofBytes_150 (by decide) ?_
        refine lv_icmp_ne (tgt := 172) hx hb dX4_ofBytes_152 (by decide) (fun c5 => ?_) (fun c5 => ?_)
        · replace hw := And.left hw c5
          refine lv_iload_n hx hb dX4_ofBytes_172 rfl (lv_at hl 0 rfl) ?_
          refine lv_if_ge (tgt := 180) hx hb dX4_ofBytes_173 (by decide) (fun c3 => ?_) (fun c3 => ?_)
          · replace hw := And.left hw c3
            refine lv_iload_n hx hb dX4_ofBytes_180 rfl (lv_at hl 0 rfl) ?_
            exact W.iret hx hb hr (fun t ht hW => ⟨_, rfl, hw, ht⟩) (fun q h => by cases h) dX4_ofBytes_181
          · replace hw := And.right hw c3
            refine lv_iconst (v := 0) hx hb dX4_ofBytes_176 (by decide) ?_
            refine lv_goto (tgt := 181) hx hb dX4_ofBytes_177 (by decide) ?_
            exact W.iret hx hb hr (fun t ht hW => ⟨_, rfl, hw, ht⟩) (fun q h => by cases h) dX4_ofBytes_181
        · replace hw := And.right hw c5
          refine lv_iload_n hx hb dX4_ofBytes_155 rfl (lv_at hl 2 rfl) ?_
          refine lv_iload_n hx hb dX4_ofBytes_156 rfl (lv_at hl 3 rfl) ?_
          refine lv_icmp_le (tgt := 166) hx hb dX4_ofBytes_157 (by decide) (fun c4 => ?_) (fun c4 => ?_)
          · replace hw := And.left hw c4
            refine lv_iload_n hx hb dX4_ofBytes_166 rfl (lv_at hl 3 rfl) ?_
            refine lv_iload_n hx hb dX4_ofBytes_167 rfl (lv_at hl 2 rfl) ?_
            refine lv_isub hx hb dX4_ofBytes_168 ?_
            refine lv_goto (tgt := 181) hx hb dX4_ofBytes_169 (by decide) ?_
            exact W.iret hx hb hr (fun t ht hW => ⟨_, rfl, hw, ht⟩) (fun q h => by cases h) dX4_ofBytes_181
          · replace hw := And.right hw c4
            refine lv_iload_n hx hb dX4_ofBytes_160 rfl (lv_at hl 2 rfl) ?_
            refine lv_iload_n hx hb dX4_ofBytes_161 rfl (lv_at hl 3 rfl) ?_
            refine lv_isub hx hb dX4_ofBytes_162 ?_
            refine lv_goto (tgt := 181) hx hb dX4_ofBytes_163 (by decide) ?_
            exact W.iret hx hb hr (fun t ht hW => ⟨_, rfl, hw, ht⟩) (fun q h => by cases h) dX4_ofBytes_181
      · replace hw := And.right hw c9
        refine lv_iload_n hx hb dX4_ofBytes_117 rfl (lv_at hl 0 rfl) ?_
        refine lv_bipush (v := 8) hx hb dX4_ofBytes_118 (by decide) ?_
        refine lv_icmp_ne (tgt := 131) hx hb dX4_ofBytes_120 (by decide) (fun c8 => ?_) (fun c8 => ?_)
        · replace hw := And.left hw c8
          refine lv_iload_n hx hb dX4_ofBytes_131 rfl (lv_at hl 1 rfl) ?_
          refine lv_iload_n hx hb dX4_ofBytes_132 rfl (lv_at hl 2 rfl) ?_
          refine vp_callSi (va_Run.run (va_runS (As := [.int p1, .int p2]) (rest := []) ⟨hx, hb, hml, hown, hts⟩ (c_X4_soft l p1 p2 _ hw) (gcS 2 hts m667 m665 m666 m24 rfl rfl (by decide +kernel) ⟨Nat.le_of_ble_eq_true rfl, Nat.le_of_ble_eq_true rfl⟩) ⟨xbl0, fun U hU hW => ⟨rfl, trivial⟩⟩ rfl rfl hl.1 rfl (lv_room (Nat.le_of_ble_eq_true rfl)) dX4_ofBytes_133 ⟨Nat.le_of_ble_eq_true rfl, Nat.le_of_ble_eq_true rfl⟩)) (fun r6 hw => ?_)
          exact W.iret hx hb hr (fun t ht hW => ⟨_, rfl, hw, ht⟩) (fun q h => by cases h) dX4_ofBytes_136
        · replace hw := And.right hw c8
          refine lv_iload_n hx hb dX4_ofBytes_123 rfl (lv_at hl 1 rfl) ?_
          refine lv_iload_n hx hb dX4_ofBytes_124 rfl (lv_at hl 2 rfl) ?_
          refine vp_callSi (va_Run.run (va_runS (As := [.int p1, .int p2]) (rest := []) ⟨hx, hb, hml, hown, hts⟩ (c_X4_hard l p1 p2 _ hw) (gcS 2 hts m658 m656 m657 m24 rfl rfl (by decide +kernel) ⟨Nat.le_of_ble_eq_true rfl, Nat.le_of_ble_eq_true rfl⟩) ⟨xbl0, fun U hU hW => ⟨rfl, trivial⟩⟩ rfl rfl hl.1 rfl (lv_room (Nat.le_of_ble_eq_true rfl)) dX4_ofBytes_125 ⟨Nat.le_of_ble_eq_true rfl, Nat.le_of_ble_eq_true rfl⟩)) (fun r7 hw => ?_)
          refine lv_goto (tgt := 136) hx hb dX4_ofBytes_128 (by decide) ?_
          exact W.iret hx hb hr (fun t ht hW => ⟨_, rfl, hw, ht⟩) (fun q h => by cases h) dX4_ofBytes_136
    · replace hw := And.right hw c17
      refine lv_iload_n hx hb dX4_ofBytes_55 rfl (lv_at hl 0 rfl) ?_
      refine lv_iconst (v := 4) hx hb dX4_ofBytes_56 (by decide) ?_
      refine lv_icmp_ne (tgt := 73) hx hb dX4_ofBytes_57 (by decide) (fun c16 => ?_) (fun c16 => ?_)
      · replace hw := And.left hw c16
        refine lv_iload_n hx hb dX4_ofBytes_73 rfl (lv_at hl 0 rfl) ?_
        refine lv_iconst (v := 5) hx hb dX4_ofBytes_74 (by decide) ?_
        refine lv_icmp_ne (tgt := 91) hx hb dX4_ofBytes_75 (by decide) (fun c14 => ?_) (fun c14 => ?_)
        · replace hw := And.left hw c14
          refine lv_iload_n hx hb dX4_ofBytes_91 rfl (lv_at hl 0 rfl) ?_
          refine lv_bipush (v := 6) hx hb dX4_ofBytes_92 (by decide) ?_
          refine lv_icmp_ne (tgt := 105) hx hb dX4_ofBytes_94 (by decide) (fun c12 => ?_) (fun c12 => ?_)
          · replace hw := And.left hw c12
            refine lv_iload_n hx hb dX4_ofBytes_105 rfl (lv_at hl 1 rfl) ?_
            refine lv_iload_n hx hb dX4_ofBytes_106 rfl (lv_at hl 2 rfl) ?_
            refine vp_callSi (va_Run.run (va_runS (As := [.int p1, .int p2]) (rest := []) ⟨hx, hb, hml, hown, hts⟩ (c_X4_burn l p1 p2 _ hw) (gcS 2 hts m664 m662 m663 m24 rfl rfl (by decide +kernel) ⟨Nat.le_of_ble_eq_true rfl, Nat.le_of_ble_eq_true rfl⟩) ⟨xbl0, fun U hU hW => ⟨rfl, trivial⟩⟩ rfl rfl hl.1 rfl (lv_room (Nat.le_of_ble_eq_true rfl)) dX4_ofBytes_107 ⟨Nat.le_of_ble_eq_true rfl, Nat.le_of_ble_eq_true rfl⟩)) (fun r10 hw => ?_)
            exact W.iret hx hb hr (fun t ht hW => ⟨_, rfl, hw, ht⟩) (fun q h => by cases h) dX4_ofBytes_110
          · replace hw := And.right hw c12
            refine lv_iload_n hx hb dX4_ofBytes_97 rfl (lv_at hl 1 rfl) ?_
            refine lv_iload_n hx hb dX4_ofBytes_98 rfl (lv_at hl 2 rfl) ?_
            refine vp_callSi (va_Run.run (va_runS (As := [.int p1, .int p2]) (rest := []) ⟨hx, hb, hml, hown, hts⟩ (c_X4_dodge l p1 p2 _ hw) (gcS 2 hts m661 m659 m660 m24 rfl rfl (by decide +kernel) ⟨Nat.le_of_ble_eq_true rfl, Nat.le_of_ble_eq_true rfl⟩) ⟨xbl0, fun U hU hW => ⟨rfl, trivial⟩⟩ rfl rfl hl.1 rfl (lv_room (Nat.le_of_ble_eq_true rfl)) dX4_ofBytes_99 ⟨Nat.le_of_ble_eq_true rfl, Nat.le_of_ble_eq_true rfl⟩)) (fun r11 hw => ?_)
            refine lv_goto (tgt := 110) hx hb dX4_ofBytes_102 (by decide) ?_
            exact W.iret hx hb hr (fun t ht hW => ⟨_, rfl, hw, ht⟩) (fun q h => by cases h) dX4_ofBytes_110
        · replace hw := And.right hw c14
          refine lv_iload_n hx hb dX4_ofBytes_78 rfl (lv_at hl 1 rfl) ?_
          refine lv_iload_n hx hb dX4_ofBytes_79 rfl (lv_at hl 2 rfl) ?_
          refine lv_icmp_le (tgt := 87) hx hb dX4_ofBytes_80 (by decide) (fun c13 => ?_) (fun c13 => ?_)
          · replace hw := And.left hw c13
            refine lv_iload_n hx hb dX4_ofBytes_87 rfl (lv_at hl 2 rfl) ?_
            refine lv_goto (tgt := 110) hx hb dX4_ofBytes_88 (by decide) ?_
            exact W.iret hx hb hr (fun t ht hW => ⟨_, rfl, hw, ht⟩) (fun q h => by cases h) dX4_ofBytes_110
          · replace hw := And.right hw c13
            refine lv_iload_n hx hb dX4_ofBytes_83 rfl (lv_at hl 1 rfl) ?_
            refine lv_goto (tgt := 110) hx hb dX4_ofBytes_84 (by decide) ?_
            exact W.iret hx hb hr (fun t ht hW => ⟨_, rfl, hw, ht⟩) (fun q h => by cases h) dX4_ofBytes_110
      · replace hw := And.right hw c16
        refine lv_iload_n hx hb dX4_ofBytes_60 rfl (lv_at hl 1 rfl) ?_
        refine lv_iload_n hx hb dX4_ofBytes_61 rfl (lv_at hl 2 rfl) ?_
        refine lv_icmp_ge (tgt := 69) hx hb dX4_ofBytes_62 (by decide) (fun c15 => ?_) (fun c15 => ?_)
        · replace hw := And.left hw c15
          refine lv_iload_n hx hb dX4_ofBytes_69 rfl (lv_at hl 2 rfl) ?_
          refine lv_goto (tgt := 110) hx hb dX4_ofBytes_70 (by decide) ?_
          exact W.iret hx hb hr (fun t ht hW => ⟨_, rfl, hw, ht⟩) (fun q h => by cases h) dX4_ofBytes_110
        · replace hw := And.right hw c15
          refine lv_iload_n hx hb dX4_ofBytes_65 rfl (lv_at hl 1 rfl) ?_
          refine lv_goto (tgt := 110) hx hb dX4_ofBytes_66 (by decide) ?_
          exact W.iret hx hb hr (fun t ht hW => ⟨_, rfl, hw, ht⟩) (fun q h => by cases h) dX4_ofBytes_110
  · replace hw := And.right hw c24
    refine lv_iload_n hx hb dX4_ofBytes_5 rfl (lv_at hl 0 rfl) ?_
    refine lv_if_ne (tgt := 13) hx hb dX4_ofBytes_6 (by decide) (fun c23 => ?_) (fun c23 => ?_)
    · replace hw := And.left hw c23
      refine lv_iload_n hx hb dX4_ofBytes_13 rfl (lv_at hl 0 rfl) ?_
      refine lv_iconst (v := 1) hx hb dX4_ofBytes_14 (by decide) ?_
      refine lv_icmp_ne (tgt := 26) hx hb dX4_ofBytes_15 (by decide) (fun c22 => ?_) (fun c22 => ?_)
      · replace hw := And.left hw c22
        refine lv_iload_n hx hb dX4_ofBytes_26 rfl (lv_at hl 0 rfl) ?_
        refine lv_iconst (v := 2) hx hb dX4_ofBytes_27 (by decide) ?_
        refine lv_icmp_ne (tgt := 43) hx hb dX4_ofBytes_28 (by decide) (fun c20 => ?_) (fun c20 => ?_)
        · replace hw := And.left hw c20
          refine lv_iload_n hx hb dX4_ofBytes_43 rfl (lv_at hl 2 rfl) ?_
          refine lv_iload_n hx hb dX4_ofBytes_44 rfl (lv_at hl 1 rfl) ?_
          refine vp_callSi (va_Run.run (va_runS (As := [.int p2, .int p1]) (rest := []) ⟨hx, hb, hml, hown, hts⟩ (c_X4_hard l p2 p1 _ hw) (gcS 2 hts m658 m656 m657 m24 rfl rfl (by decide +kernel) ⟨Nat.le_of_ble_eq_true rfl, Nat.le_of_ble_eq_true rfl⟩) ⟨xbl0, fun U hU hW => ⟨rfl, trivial⟩⟩ rfl rfl hl.1 rfl (lv_room (Nat.le_of_ble_eq_true rfl)) dX4_ofBytes_45 ⟨Nat.le_of_ble_eq_true rfl, Nat.le_of_ble_eq_true rfl⟩)) (fun r18 hw => ?_)
          exact W.iret hx hb hr (fun t ht hW => ⟨_, rfl, hw, ht⟩) (fun q h => by cases h) dX4_ofBytes_48
        · replace hw := And.right hw c20
          refine lv_iload_n hx hb dX4_ofBytes_31 rfl (lv_at hl 1 rfl) ?_
          refine lv_iload_n hx hb dX4_ofBytes_32 rfl (lv_at hl 2 rfl) ?_
          refine lv_iadd hx hb dX4_ofBytes_33 ?_
          refine lv_iload_n hx hb dX4_ofBytes_34 rfl (lv_at hl 1 rfl) ?_
          refine lv_iload_n hx hb dX4_ofBytes_35 rfl (lv_at hl 2 rfl) ?_
          refine vp_callSi (va_Run.run (va_runS (As := [.int p1, .int p2]) (rest := [.int (p1 + p2)]) ⟨hx, hb, hml, hown, hts⟩ (c_X4_mul l p1 p2 _ hw) (gcS 2 hts m621 m619 m620 m24 rfl rfl (by decide +kernel) ⟨Nat.le_of_ble_eq_true rfl, Nat.le_of_ble_eq_true rfl⟩) ⟨xbl0, fun U hU hW => ⟨rfl, trivial⟩⟩ rfl rfl hl.1 rfl (lv_room (Nat.le_of_ble_eq_true rfl)) dX4_ofBytes_36 ⟨Nat.le_of_ble_eq_true rfl, Nat.le_of_ble_eq_true rfl⟩)) (fun r19 hw => ?_)
          refine lv_isub hx hb dX4_ofBytes_39 ?_
          refine lv_goto (tgt := 48) hx hb dX4_ofBytes_40 (by decide) ?_
          exact W.iret hx hb hr (fun t ht hW => ⟨_, rfl, hw, ht⟩) (fun q h => by cases h) dX4_ofBytes_48
      · replace hw := And.right hw c22
        refine lv_iload_n hx hb dX4_ofBytes_18 rfl (lv_at hl 1 rfl) ?_
        refine lv_iload_n hx hb dX4_ofBytes_19 rfl (lv_at hl 2 rfl) ?_
        refine vp_callSi (va_Run.run (va_runS (As := [.int p1, .int p2]) (rest := []) ⟨hx, hb, hml, hown, hts⟩ (c_X4_mul l p1 p2 _ hw) (gcS 2 hts m621 m619 m620 m24 rfl rfl (by decide +kernel) ⟨Nat.le_of_ble_eq_true rfl, Nat.le_of_ble_eq_true rfl⟩) ⟨xbl0, fun U hU hW => ⟨rfl, trivial⟩⟩ rfl rfl hl.1 rfl (lv_room (Nat.le_of_ble_eq_true rfl)) dX4_ofBytes_20 ⟨Nat.le_of_ble_eq_true rfl, Nat.le_of_ble_eq_true rfl⟩)) (fun r21 hw => ?_)
        refine lv_goto (tgt := 48) hx hb dX4_ofBytes_23 (by decide) ?_
        exact W.iret hx hb hr (fun t ht hW => ⟨_, rfl, hw, ht⟩) (fun q h => by cases h) dX4_ofBytes_48
    · replace hw := And.right hw c23
      refine lv_iload_n hx hb dX4_ofBytes_9 rfl (lv_at hl 2 rfl) ?_
      refine lv_goto (tgt := 48) hx hb dX4_ofBytes_10 (by decide) ?_
      exact W.iret hx hb hr (fun t ht hW => ⟨_, rfl, hw, ht⟩) (fun q h => by cases h) dX4_ofBytes_48
abbrev wX4_down : List Cond := Cond.code yX4_down cX4_down 3 (some .int) :: gG
def wp_X4_down_28 (P : Int32 → Prop) (x2 : Int32) (s0 : Int32) (s1 : Int32) : Prop :=
  ((s1 = s0 → P x2) ∧
  (¬ s1 = s0 → P (x2 - 1)))
def wp_X4_down_19 (P : Int32 → Prop) (x1 : Int32) (x2 : Int32) (s0 : Int32) : Prop :=
  ((0 ≤ x1 → wp_X4_down_28 P x2 0 s0) ∧
  (¬ 0 ≤ x1 → wp_X4_down_28 P x2 1 s0))
def wp_X4_down (p0 : Int32) (p1 : Int32) (P : Int32 → Prop) : Prop :=
  (¬ p1 = 0 ∧ ∀ v1 : Int32, v1 = (p0 / p1) → (¬ p1 = 0 ∧ (((p0 - p0 / p1 * p1) = 0 → P v1) ∧
  (¬ (p0 - p0 / p1 * p1) = 0 → ((0 ≤ p0 → wp_X4_down_19 P p1 v1 0) ∧
  (¬ 0 ≤ p0 → wp_X4_down_19 P p1 v1 1))))))
abbrev rm_X4_down : Room := { frames := 0, cells := 0, slots := 0, locals := 0 }
set_option maxHeartbeats 4000000 in
set_option maxRecDepth 100000 in
theorem c_X4_down (l : Launch) (p0 : Int32) (p1 : Int32) (P : Int32 → Prop) (hw : wp_X4_down p0 p1 P) : Met l yX4_down wX4_down rm_X4_down (xP0 [.int p0, .int p1]) (vp_Si P) 0 0 (fun _ => False) := by
  refine Met.ofW (cc := cX4_down) (maxL := 3) (ret := (some .int)) (by decide) rfl ?_
  intro p e s m args below meth c s₁ B hml hv
  obtain ⟨hargs, -⟩ := hv
  have hx := B.exec
  have hb := B.bytes
  have hr := B.returns
  have hts := atoms_spec (ws := wX4_down) B.pre
  have hown : s.vm.findClass RX4 = some m.cls := findClass_of_methodNamed B.named
  have hlocks := B.notSynchronized
  have J28 : ∀ (x2 : Int32) (s0 : Int32) (s1 : Int32), wp_X4_down_28 P x2 s0 s1 → ∀ (ls : Array Slot), lv_has ls 3 [(2, .int x2)] → W p l e (headSpec wX4_down rm_X4_down).room s m args below meth c s.heap [] 0 0 (MQ below (vp_Si P) args s 0 0 (fun _ => False)) (F0 m 28 ls [.int s0, .int s1]) := by
    intro  x2 s0 s1 hw ls hl
    refine lv_icmp_eq (tgt := 37) hx hb dX4_down_28 (by decide) (fun c2 => ?_) (fun c2 => ?_)
    · replace hw := And.left hw c2
      refine lv_iload_n hx hb dX4_down_37 rfl (lv_at hl 0 rfl) ?_
      exact W.iret hx hb hr (fun t ht hW => ⟨_, rfl, hw, ht⟩) (fun q h => by cases h) dX4_down_38
    · replace hw := And.right hw c2
      refine lv_iload_n hx hb dX4_down_31 rfl (lv_at hl 0 rfl) ?_
      refine lv_iconst (v := 1) hx hb dX4_down_32 (by decide) ?_
      refine lv_isub hx hb dX4_down_33 ?_
      refine lv_goto (tgt := 38) hx hb dX4_down_34 (by decide) ?_
      exact W.iret hx hb hr (fun t ht hW => ⟨_, rfl, hw, ht⟩) (fun q h => by cases h) dX4_down_38
  have J19 : ∀ (x1 : Int32) (x2 : Int32) (s0 : Int32), wp_X4_down_19 P x1 x2 s0 → ∀ (ls : Array Slot), lv_has ls 3 [(1, .int x1), (2, .int x2)] → W p l e (headSpec wX4_down rm_X4_down).room s m args below meth c s.heap [] 0 0 (MQ below (vp_Si P) args s 0 0 (fun _ => False)) (F0 m 19 ls [.int s0]) := by
    intro  x1 x2 s0 hw ls hl
    refine lv_iload_n hx hb dX4_down_19 rfl (lv_at hl 0 rfl) ?_
    refine lv_if_ge (tgt := 27) hx hb dX4_down_20 (by decide) (fun c3 => ?_) (fun c3 => ?_)
    · replace hw := And.left hw c3
      refine lv_iconst (v := 0) hx hb dX4_down_27 (by decide) ?_
      exact J28 _ _ _ hw _ (lv_sub hl [1] rfl)
    · replace hw := And.right hw c3
      refine lv_iconst (v := 1) hx hb dX4_down_23 (by decide) ?_
      refine lv_goto (tgt := 28) hx hb dX4_down_24 (by decide) ?_
      exact J28 _ _ _ hw _ (lv_sub hl [1] rfl)
  have hl := lv_entry ([.int p0, .int p1]) (n := 3) (Nat.le_of_ble_eq_true rfl)
  rw [show entryFrame m args 3 = entryFrame m (([.int p0, .int p1] : List Value).toArray) 3 from by rw [hargs], lg_entry_eq]
  generalize (lg_sl ([.int p0, .int p1]) ++ List.replicate (3 - (lg_sl ([.int p0, .int p1])).length) Slot.unset).toArray = ls at hl ⊢
  have hl : lv_has ls 3 [(0, .int p0), (1, .int p1)] := hl
  refine lv_iload_n hx hb dX4_down_0 rfl (lv_at hl 0 rfl) ?_
  refine lv_iload_n hx hb dX4_down_1 rfl (lv_at hl 1 rfl) ?_
  refine lv_idiv hx hb dX4_down_2 (And.left hw) ?_
  replace hw := And.right hw
  refine lv_topi (fun v1 e_v1 => ?_)
  replace hw := hw v1 e_v1
  refine lv_istore_n (lv' := [(2, .int v1), (0, .int p0), (1, .int p1)]) hx hb dX4_down_3 rfl hl (by decide) rfl (fun ls hl => ?_)
  refine lv_iload_n hx hb dX4_down_4 rfl (lv_at hl 1 rfl) ?_
  refine lv_iload_n hx hb dX4_down_5 rfl (lv_at hl 2 rfl) ?_
  refine lv_irem hx hb dX4_down_6 (And.left hw) ?_
  replace hw := And.right hw
  refine lv_if_eq (tgt := 37) hx hb dX4_down_7 (by decide) (fun c5 => ?_) (fun c5 => ?_)
  · replace hw := And.left hw c5
    refine lv_iload_n hx hb dX4_down_37 rfl (lv_at hl 0 rfl) ?_
    exact W.iret hx hb hr (fun t ht hW => ⟨_, rfl, hw, ht⟩) (fun q h => by cases h) dX4_down_38
  · replace hw := And.right hw c5
    refine lv_iload_n hx hb dX4_down_10 rfl (lv_at hl 1 rfl) ?_
    refine lv_if_ge (tgt := 18) hx hb dX4_down_11 (by decide) (fun c4 => ?_) (fun c4 => ?_)
    · replace hw := And.left hw c4
      refine lv_iconst (v := 0) hx hb dX4_down_18 (by decide) ?_
      exact J19 _ _ _ hw _ (lv_sub hl [2, 0] rfl)
    · replace hw := And.right hw c4
      refine lv_iconst (v := 1) hx hb dX4_down_14 (by decide) ?_
      refine lv_goto (tgt := 19) hx hb dX4_down_15 (by decide) ?_
      exact J19 _ _ _ hw _ (lv_sub hl [2, 0] rfl)
