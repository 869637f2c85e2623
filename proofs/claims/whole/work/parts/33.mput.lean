theorem m8 : Cond.selects RX4 yX4_alphaOf yX4_alphaOf ∈ gG := gG_mk (i := 8) (by decide +kernel) (by decide +kernel)
theorem m14 : Cond.selects RX4 yX4_mix yX4_mix ∈ gG := gG_mk (i := 14) (by decide +kernel) (by decide +kernel)
theorem m528 : Cond.fieldLink RX4 72 "BlendRowsModel" "thrown" "I" ∈ gG := gG_mk (i := 528) (by decide +kernel) (by decide +kernel)
theorem m529 : Cond.fieldLink RX4 66 "BlendRowsModel" "width" "I" ∈ gG := gG_mk (i := 529) (by decide +kernel) (by decide +kernel)
theorem m530 : Cond.fieldLink RX4 69 "BlendRowsModel" "height" "I" ∈ gG := gG_mk (i := 530) (by decide +kernel) (by decide +kernel)
theorem m534 : Cond.fieldLink RX4 20 "BlendRowsModel" "groups" "I" ∈ gG := gG_mk (i := 534) (by decide +kernel) (by decide +kernel)
theorem m535 : Cond.fieldLink RX4 23 "BlendRowsModel" "knocks" "[Z" ∈ gG := gG_mk (i := 535) (by decide +kernel) (by decide +kernel)
theorem m536 : Cond.fieldLink RX4 27 "BlendRowsModel" "backColour" "[I" ∈ gG := gG_mk (i := 536) (by decide +kernel) (by decide +kernel)
theorem m537 : Cond.fieldLink RX4 30 "BlendRowsModel" "backAlpha" "[I" ∈ gG := gG_mk (i := 537) (by decide +kernel) (by decide +kernel)
theorem m538 : Cond.fieldLink RX4 33 "BlendRowsModel" "colours" "[I" ∈ gG := gG_mk (i := 538) (by decide +kernel) (by decide +kernel)
theorem m539 : Cond.fieldLink RX4 36 "BlendRowsModel" "own" "[I" ∈ gG := gG_mk (i := 539) (by decide +kernel) (by decide +kernel)
theorem m540 : Cond.fieldLink RX4 39 "BlendRowsModel" "shapes" "[I" ∈ gG := gG_mk (i := 540) (by decide +kernel) (by decide +kernel)
theorem m541 : Cond.fieldLink RX4 122 "BlendRowsModel" "hasMask" "Z" ∈ gG := gG_mk (i := 541) (by decide +kernel) (by decide +kernel)
theorem m542 : Cond.fieldLink RX4 42 "BlendRowsModel" "maskBytes" "[I" ∈ gG := gG_mk (i := 542) (by decide +kernel) (by decide +kernel)
theorem m545 : Cond.fieldLink RX4 51 "BlendRowsModel" "stay" "[Z" ∈ gG := gG_mk (i := 545) (by decide +kernel) (by decide +kernel)
theorem m615 : Cond.methodLink RX4 126 yX4_alphaOf ∈ gG := gG_mk (i := 615) (by decide +kernel) (by decide +kernel)
theorem m617 : Cond.instanceMethod yX4_alphaOf ∈ gG := gG_mk (i := 617) (by decide +kernel) (by decide +kernel)
theorem m618 : Cond.code yX4_alphaOf cX4_alphaOf 5 (some .int) ∈ gG := gG_mk (i := 618) (by decide +kernel) (by decide +kernel)
theorem m649 : Cond.methodLink RX4 129 yX4_mix ∈ gG := gG_mk (i := 649) (by decide +kernel) (by decide +kernel)
theorem m651 : Cond.instanceMethod yX4_mix ∈ gG := gG_mk (i := 651) (by decide +kernel) (by decide +kernel)
theorem m652 : Cond.code yX4_mix cX4_mix 3 none ∈ gG := gG_mk (i := 652) (by decide +kernel) (by decide +kernel)
abbrev wX4_here : List Cond := Cond.code yX4_here cX4_here 1 (some .int) :: gG
def wp_X4_here (um : Nat → Nat → Int32) (P : Int32 → Prop) : Prop :=
  P ((um 0 5) - 1)
abbrev rm_X4_here : Room := { frames := 0, cells := 0, slots := 0, locals := 0 }
set_option maxHeartbeats 4000000 in
set_option maxRecDepth 100000 in
theorem c_X4_here (l : Launch) (dC : Nat → ClassId) (dI : Nat → Nat → Nat) (cA : Nat → ClassId) (gm : Nat → Nat) (um : Nat → Nat → Int32) (P : Int32 → Prop) (hw : wp_X4_here um P) : Met l yX4_here wX4_here rm_X4_here (xP1 dC dI cA (w_md gm cA um) [.ref (gm 0)]) (vp_Si P) 0 0 (fun _ => False) := by
  refine Met.ofW (cc := cX4_here) (maxL := 1) (ret := (some .int)) (by decide) rfl ?_
  intro p e s m args below meth c s₁ B hml hv
  obtain ⟨hargs, hP, hK⟩ := hv
  have hx := B.exec
  have hb := B.bytes
  have hr := B.returns
  have hts := atoms_spec (ws := wX4_here) B.pre
  have hown : s.vm.findClass RX4 = some m.cls := findClass_of_methodNamed B.named
  have hlocks := B.notSynchronized
  have hl := lv_entry ([.ref (gm 0)]) (n := 1) (Nat.le_of_ble_eq_true rfl)
  rw [show entryFrame m args 1 = entryFrame m (([.ref (gm 0)] : List Value).toArray) 1 from by rw [hargs], lg_entry_eq]
  generalize (lg_sl ([.ref (gm 0)]) ++ List.replicate (1 - (lg_sl ([.ref (gm 0)])).length) Slot.unset).toArray = ls at hl ⊢
  have hl : lv_has ls 1 [(0, .ref (gm 0))] := hl
  refine lv_aload_n hx hb dX4_here_0 rfl (lv_at hl 0 rfl) ?_
  refine va_get (D := (dC, dI)) (ci := 3) (v := .int (um 0 5)) (C := RX4) (T := TX4) (N := 23) hx hb hts iX4 hown hK hP 0 rfl rfl 6 (by decide) (hts _ (xm m534)) (fun _ h9 => h9) rfl dX4_here_1 ?_
  refine lv_iconst (v := 1) hx hb dX4_here_4 (by decide) ?_
  refine lv_isub hx hb dX4_here_5 ?_
  exact W.iret hx hb hr (fun t ht hW => ⟨_, rfl, hw, ht⟩) (fun q h => by cases h) dX4_here_6
abbrev wX4_alphaOf : List Cond := Cond.code yX4_alphaOf cX4_alphaOf 5 (some .int) :: gG
def wp_X4_alphaOf (um : Nat → Nat → Int32) (p0 : Int32) (p1 : Int32) (P : Int32 → Prop) : Prop :=
  (vp_in ((144 * p0) + p1) 1152 ∧ ∀ v1 : Int32, v1 = (um 4 ((144 * p0) + p1).toNatClampNeg) → (vp_in ((144 * p0) + p1) 1152 ∧ ∀ v2 : Int32, v2 = (um 6 ((144 * p0) + p1).toNatClampNeg) → wp_X4_mul v1 v2 (fun r3 => P ((v1 + v2) - r3))))
abbrev rm_X4_alphaOf : Room := { frames := 1, cells := 0, slots := 0, locals := 21 }
set_option maxHeartbeats 4000000 in
set_option maxRecDepth 100000 in
theorem c_X4_alphaOf (l : Launch) (dC : Nat → ClassId) (dI : Nat → Nat → Nat) (cA : Nat → ClassId) (gm : Nat → Nat) (um : Nat → Nat → Int32) (p0 : Int32) (p1 : Int32) (P : Int32 → Prop) (hw : wp_X4_alphaOf um p0 p1 P) : Met l yX4_alphaOf wX4_alphaOf rm_X4_alphaOf (xP1 dC dI cA (w_md gm cA um) [.ref (gm 0), .int p0, .int p1]) (vp_Si P) 0 0 (fun _ => False) := by
  refine Met.ofW (cc := cX4_alphaOf) (maxL := 5) (ret := (some .int)) (by decide) rfl ?_
  intro p e s m args below meth c s₁ B hml hv
  obtain ⟨hargs, hP, hK⟩ := hv
  have hx := B.exec
  have hb := B.bytes
  have hr := B.returns
  have hts := atoms_spec (ws := wX4_alphaOf) B.pre
  have hown : s.vm.findClass RX4 = some m.cls := findClass_of_methodNamed B.named
  have hlocks := B.notSynchronized
  have hl := lv_entry ([.ref (gm 0), .int p0, .int p1]) (n := 5) (Nat.le_of_ble_eq_true rfl)
  rw [show entryFrame m args 5 = entryFrame m (([.ref (gm 0), .int p0, .int p1] : List Value).toArray) 5 from by rw [hargs], lg_entry_eq]
  generalize (lg_sl ([.ref (gm 0), .int p0, .int p1]) ++ List.replicate (5 - (lg_sl ([.ref (gm 0), .int p0, .int p1])).length) Slot.unset).toArray = ls at hl ⊢
  have hl : lv_has ls 5 [(0, .ref (gm 0)), (1, .int p0), (2, .int p1)] := hl
  refine lv_aload_n hx hb dX4_alphaOf_0 rfl (lv_at hl 0 rfl) ?_
  refine va_get (D := (dC, dI)) (ci := 3) (v := .ref (gm 4)) (C := RX4) (T := TX4) (N := 23) hx hb hts iX4 hown hK hP 0 rfl rfl 9 (by decide) (hts _ (xm m537)) (fun _ h9 => h9) rfl dX4_alphaOf_1 ?_
  refine lv_sipush (v := 144) hx hb dX4_alphaOf_4 (by decide) ?_
  refine lv_iload_n hx hb dX4_alphaOf_7 rfl (lv_at hl 1 rfl) ?_
  refine lv_imul hx hb dX4_alphaOf_8 ?_
  refine lv_iload_n hx hb dX4_alphaOf_9 rfl (lv_at hl 2 rfl) ?_
  refine lv_iadd hx hb dX4_alphaOf_10 ?_
  refine va_iald hx hb hK hP 4 0 rfl rfl (And.left hw) dX4_alphaOf_11 ?_
  replace hw := And.right hw
  refine lv_topi (fun v1 e_v1 => ?_)
  replace hw := hw v1 e_v1
  refine lv_istore_n (lv' := [(3, .int v1), (0, .ref (gm 0)), (1, .int p0), (2, .int p1)]) hx hb dX4_alphaOf_12 rfl hl (by decide) rfl (fun ls hl => ?_)
  refine lv_aload_n hx hb dX4_alphaOf_13 rfl (lv_at hl 1 rfl) ?_
  refine va_get (D := (dC, dI)) (ci := 3) (v := .ref (gm 6)) (C := RX4) (T := TX4) (N := 23) hx hb hts iX4 hown hK hP 0 rfl rfl 11 (by decide) (hts _ (xm m539)) (fun _ h9 => h9) rfl dX4_alphaOf_14 ?_
  refine lv_sipush (v := 144) hx hb dX4_alphaOf_17 (by decide) ?_
  refine lv_iload_n hx hb dX4_alphaOf_20 rfl (lv_at hl 2 rfl) ?_
  refine lv_imul hx hb dX4_alphaOf_21 ?_
  refine lv_iload_n hx hb dX4_alphaOf_22 rfl (lv_at hl 3 rfl) ?_
  refine lv_iadd hx hb dX4_alphaOf_23 ?_
  refine va_iald hx hb hK hP 6 0 rfl rfl (And.left hw) dX4_alphaOf_24 ?_
  replace hw := And.right hw
  refine lv_topi (fun v2 e_v2 => ?_)
  replace hw := hw v2 e_v2
  refine lv_istore (lv' := [(4, .int v2), (3, .int v1), (0, .ref (gm 0)), (1, .int p0), (2, .int p1)]) hx hb dX4_alphaOf_25 hl (by decide) rfl (fun ls hl => ?_)
  refine lv_iload_n hx hb dX4_alphaOf_27 rfl (lv_at hl 1 rfl) ?_
  refine lv_iload hx hb dX4_alphaOf_28 (lv_at hl 0 rfl) ?_
  refine lv_iadd hx hb dX4_alphaOf_30 ?_
  refine lv_iload_n hx hb dX4_alphaOf_31 rfl (lv_at hl 1 rfl) ?_
  refine lv_iload hx hb dX4_alphaOf_32 (lv_at hl 0 rfl) ?_
  refine vp_callSi (va_Run.run (va_runS (As := [.int v1, .int v2]) (rest := [.int (v1 + v2)]) ⟨hx, hb, hml, hown, hts⟩ (c_X4_mul l v1 v2 _ hw) (gcS 2 hts m621 m619 m620 m24 rfl rfl (by decide +kernel) ⟨Nat.le_of_ble_eq_true rfl, Nat.le_of_ble_eq_true rfl⟩) ⟨xbl0, fun U hU hW => ⟨rfl, trivial⟩⟩ rfl rfl hl.1 rfl (lv_room (Nat.le_of_ble_eq_true rfl)) dX4_alphaOf_34 ⟨Nat.le_of_ble_eq_true rfl, Nat.le_of_ble_eq_true rfl⟩)) (fun r3 hw => ?_)
  refine lv_isub hx hb dX4_alphaOf_37 ?_
  exact W.iret hx hb hr (fun t ht hW => ⟨_, rfl, hw, ht⟩) (fun q h => by cases h) dX4_alphaOf_38
abbrev wX4_leaves : List Cond := Cond.code yX4_leaves cX4_leaves 3 (some .int) :: gG
def wp_X4_leaves (um : Nat → Nat → Int32) (p0 : Int32) (p1 : Int32) (P : Int32 → Prop) : Prop :=
  (((um 0 6) = 0 → P p0) ∧
  (¬ (um 0 6) = 0 → (vp_in p1 144 ∧ wp_X4_mul p0 (um 8 p1.toNatClampNeg) (fun r1 => P r1))))
abbrev rm_X4_leaves : Room := { frames := 1, cells := 0, slots := 0, locals := 21 }
set_option maxHeartbeats 4000000 in
set_option maxRecDepth 100000 in
theorem c_X4_leaves (l : Launch) (dC : Nat → ClassId) (dI : Nat → Nat → Nat) (cA : Nat → ClassId) (gm : Nat → Nat) (um : Nat → Nat → Int32) (p0 : Int32) (p1 : Int32) (P : Int32 → Prop) (hw : wp_X4_leaves um p0 p1 P) : Met l yX4_leaves wX4_leaves rm_X4_leaves (xP1 dC dI cA (w_md gm cA um) [.ref (gm 0), .int p0, .int p1]) (vp_Si P) 0 0 (fun _ => False) := by
  refine Met.ofW (cc := cX4_leaves) (maxL := 3) (ret := (some .int)) (by decide) rfl ?_
  intro p e s m args below meth c s₁ B hml hv
  obtain ⟨hargs, hP, hK⟩ := hv
  have hx := B.exec
  have hb := B.bytes
  have hr := B.returns
  have hts := atoms_spec (ws := wX4_leaves) B.pre
  have hown : s.vm.findClass RX4 = some m.cls := findClass_of_methodNamed B.named
  have hlocks := B.notSynchronized
  have hl := lv_entry ([.ref (gm 0), .int p0, .int p1]) (n := 3) (Nat.le_of_ble_eq_true rfl)
  rw [show entryFrame m args 3 = entryFrame m (([.ref (gm 0), .int p0, .int p1] : List Value).toArray) 3 from by rw [hargs], lg_entry_eq]
  generalize (lg_sl ([.ref (gm 0), .int p0, .int p1]) ++ List.replicate (3 - (lg_sl ([.ref (gm 0), .int p0, .int p1])).length) Slot.unset).toArray = ls at hl ⊢
  have hl : lv_has ls 3 [(0, .ref (gm 0)), (1, .int p0), (2, .int p1)] := hl
  refine lv_aload_n hx hb dX4_leaves_0 rfl (lv_at hl 0 rfl) ?_
  refine va_get (D := (dC, dI)) (ci := 3) (v := .int (um 0 6)) (C := RX4) (T := TX4) (N := 23) hx hb hts iX4 hown hK hP 0 rfl rfl 13 (by decide) (hts _ (xm m541)) (fun _ h9 => h9) rfl dX4_leaves_1 ?_
  refine lv_if_eq (tgt := 20) hx hb dX4_leaves_4 (by decide) (fun c2 => ?_) (fun c2 => ?_)
  · replace hw := And.left hw c2
    refine lv_iload_n hx hb dX4_leaves_20 rfl (lv_at hl 1 rfl) ?_
    exact W.iret hx hb hr (fun t ht hW => ⟨_, rfl, hw, ht⟩) (fun q h => by cases h) dX4_leaves_21
  · replace hw := And.right hw c2
    refine lv_iload_n hx hb dX4_leaves_7 rfl (lv_at hl 1 rfl) ?_
    refine lv_aload_n hx hb dX4_leaves_8 rfl (lv_at hl 0 rfl) ?_
    refine va_get (D := (dC, dI)) (ci := 3) (v := .ref (gm 8)) (C := RX4) (T := TX4) (N := 23) hx hb hts iX4 hown hK hP 0 rfl rfl 14 (by decide) (hts _ (xm m542)) (fun _ h9 => h9) rfl dX4_leaves_9 ?_
    refine lv_iload_n hx hb dX4_leaves_12 rfl (lv_at hl 2 rfl) ?_
    refine va_iald hx hb hK hP 8 0 rfl rfl (And.left hw) dX4_leaves_13 ?_
    replace hw := And.right hw
    refine vp_callSi (va_Run.run (va_runS (As := [.int p0, .int (um 8 p1.toNatClampNeg)]) (rest := []) ⟨hx, hb, hml, hown, hts⟩ (c_X4_mul l p0 (um 8 p1.toNatClampNeg) _ hw) (gcS 2 hts m621 m619 m620 m24 rfl rfl (by decide +kernel) ⟨Nat.le_of_ble_eq_true rfl, Nat.le_of_ble_eq_true rfl⟩) ⟨xbl0, fun U hU hW => ⟨rfl, trivial⟩⟩ rfl rfl hl.1 rfl (lv_room (Nat.le_of_ble_eq_true rfl)) dX4_leaves_14 ⟨Nat.le_of_ble_eq_true rfl, Nat.le_of_ble_eq_true rfl⟩)) (fun r1 hw => ?_)
    refine lv_goto (tgt := 21) hx hb dX4_leaves_17 (by decide) ?_
    exact W.iret hx hb hr (fun t ht hW => ⟨_, rfl, hw, ht⟩) (fun q h => by cases h) dX4_leaves_21
abbrev wX4_pointAt : List Cond := Cond.code yX4_pointAt cX4_pointAt 3 (some .int) :: gG
def wp_X4_pointAt (um : Nat → Nat → Int32) (p0 : Int32) (p1 : Int32) (P : Int32 → Prop) : Prop :=
  P ((12 * p1) + p0)
abbrev rm_X4_pointAt : Room := { frames := 0, cells := 0, slots := 0, locals := 0 }
set_option maxHeartbeats 4000000 in
set_option maxRecDepth 100000 in
theorem c_X4_pointAt (l : Launch) (dC : Nat → ClassId) (dI : Nat → Nat → Nat) (cA : Nat → ClassId) (gm : Nat → Nat) (um : Nat → Nat → Int32) (p0 : Int32) (p1 : Int32) (P : Int32 → Prop) (hw : wp_X4_pointAt um p0 p1 P) : Met l yX4_pointAt wX4_pointAt rm_X4_pointAt (xP1 dC dI cA (w_md gm cA um) [.ref (gm 0), .int p0, .int p1]) (vp_Si P) 0 0 (fun _ => False) := by
  refine Met.ofW (cc := cX4_pointAt) (maxL := 3) (ret := (some .int)) (by decide) rfl ?_
  intro p e s m args below meth c s₁ B hml hv
  obtain ⟨hargs, hP, hK⟩ := hv
  have hx := B.exec
  have hb := B.bytes
  have hr := B.returns
  have hts := atoms_spec (ws := wX4_pointAt) B.pre
  have hown : s.vm.findClass RX4 = some m.cls := findClass_of_methodNamed B.named
  have hlocks := B.notSynchronized
  have hl := lv_entry ([.ref (gm 0), .int p0, .int p1]) (n := 3) (Nat.le_of_ble_eq_true rfl)
  rw [show entryFrame m args 3 = entryFrame m (([.ref (gm 0), .int p0, .int p1] : List Value).toArray) 3 from by rw [hargs], lg_entry_eq]
  generalize (lg_sl ([.ref (gm 0), .int p0, .int p1]) ++ List.replicate (3 - (lg_sl ([.ref (gm 0), .int p0, .int p1])).length) Slot.unset).toArray = ls at hl ⊢
  have hl : lv_has ls 3 [(0, .ref (gm 0)), (1, .int p0), (2, .int p1)] := hl
  refine lv_bipush (v := 12) hx hb dX4_pointAt_0 (by decide) ?_
  refine lv_iload_n hx hb dX4_pointAt_2 rfl (lv_at hl 2 rfl) ?_
  refine lv_imul hx hb dX4_pointAt_3 ?_
  refine lv_iload_n hx hb dX4_pointAt_4 rfl (lv_at hl 1 rfl) ?_
  refine lv_iadd hx hb dX4_pointAt_5 ?_
  exact W.iret hx hb hr (fun t ht hW => ⟨_, rfl, hw, ht⟩) (fun q h => by cases h) dX4_pointAt_6
abbrev wX4_isPoint : List Cond := Cond.code yX4_isPoint cX4_isPoint 3 (some .boolean) :: gG
def wp_X4_isPoint (um : Nat → Nat → Int32) (p0 : Int32) (p1 : Int32) (P : Int32 → Prop) : Prop :=
  ((p0 < 0 → P 0) ∧
  (¬ p0 < 0 → (((um 0 1) ≤ p0 → P 0) ∧
  (¬ (um 0 1) ≤ p0 → ((p1 < 0 → P 0) ∧
  (¬ p1 < 0 → (((um 0 2) ≤ p1 → P 0) ∧
  (¬ (um 0 2) ≤ p1 → P 1))))))))
abbrev rm_X4_isPoint : Room := { frames := 0, cells := 0, slots := 0, locals := 0 }
set_option maxHeartbeats 4000000 in
set_option maxRecDepth 100000 in
theorem c_X4_isPoint (l : Launch) (dC : Nat → ClassId) (dI : Nat → Nat → Nat) (cA : Nat → ClassId) (gm : Nat → Nat) (um : Nat → Nat → Int32) (p0 : Int32) (p1 : Int32) (P : Int32 → Prop) (hw : wp_X4_isPoint um p0 p1 P) : Met l yX4_isPoint wX4_isPoint rm_X4_isPoint (xP1 dC dI cA (w_md gm cA um) [.ref (gm 0), .int p0, .int p1]) (vp_Si P) 0 0 (fun _ => False) := by
  refine Met.ofW (cc := cX4_isPoint) (maxL := 3) (ret := (some .boolean)) (by decide) rfl ?_
  intro p e s m args below meth c s₁ B hml hv
  obtain ⟨hargs, hP, hK⟩ := hv
  have hx := B.exec
  have hb := B.bytes
  have hr := B.returns
  have hts := atoms_spec (ws := wX4_isPoint) B.pre
  have hown : s.vm.findClass RX4 = some m.cls := findClass_of_methodNamed B.named
  have hlocks := B.notSynchronized
  have hl := lv_entry ([.ref (gm 0), .int p0, .int p1]) (n := 3) (Nat.le_of_ble_eq_true rfl)
  rw [show entryFrame m args 3 = entryFrame m (([.ref (gm 0), .int p0, .int p1] : List Value).toArray) 3 from by rw [hargs], lg_entry_eq]
  generalize (lg_sl ([.ref (gm 0), .int p0, .int p1]) ++ List.replicate (3 - (lg_sl ([.ref (gm 0), .int p0, .int p1])).length) Slot.unset).toArray = ls at hl ⊢
  have hl : lv_has ls 3 [(0, .ref (gm 0)), (1, .int p0), (2, .int p1)] := hl
  refine lv_iload_n hx hb dX4_isPoint_0 rfl (lv_at hl 1 rfl) ?_
  refine lv_if_lt (tgt := 28) hx hb dX4_isPoint_1 (by decide) (fun c4 => ?_) (fun c4 => ?_)
  · replace hw := And.left hw c4
    refine lv_iconst (v := 0) hx hb dX4_isPoint_28 (by decide) ?_
    exact W.zret (ty := .boolean) hx hb hr rfl (fun t ht hW => ⟨_, rfl, hw, ht⟩) (fun q h => by cases h) dX4_isPoint_29
  · replace hw := And.right hw c4
    refine lv_iload_n hx hb dX4_isPoint_4 rfl (lv_at hl 1 rfl) ?_
    refine lv_aload_n hx hb dX4_isPoint_5 rfl (lv_at hl 0 rfl) ?_
    refine va_get (D := (dC, dI)) (ci := 3) (v := .int (um 0 1)) (C := RX4) (T := TX4) (N := 23) hx hb hts iX4 hown hK hP 0 rfl rfl 1 (by decide) (hts _ (xm m529)) (fun _ h9 => h9) rfl dX4_isPoint_6 ?_
    refine lv_icmp_ge (tgt := 28) hx hb dX4_isPoint_9 (by decide) (fun c3 => ?_) (fun c3 => ?_)
    · replace hw := And.left hw c3
      refine lv_iconst (v := 0) hx hb dX4_isPoint_28 (by decide) ?_
      exact W.zret (ty := .boolean) hx hb hr rfl (fun t ht hW => ⟨_, rfl, hw, ht⟩) (fun q h => by cases h) dX4_isPoint_29
    · replace hw := And.right hw c3
      refine lv_iload_n hx hb dX4_isPoint_12 rfl (lv_at hl 2 rfl) ?_
      refine lv_if_lt (tgt := 28) hx hb dX4_isPoint_13 (by decide) (fun c2 => ?_) (fun c2 => ?_)
      · replace hw := And.left hw c2
        refine lv_iconst (v := 0) hx hb dX4_isPoint_28 (by decide) ?_
        exact W.zret (ty := .boolean) hx hb hr rfl (fun t ht hW => ⟨_, rfl, hw, ht⟩) (fun q h => by cases h) dX4_isPoint_29
      · replace hw := And.right hw c2
        refine lv_iload_n hx hb dX4_isPoint_16 rfl (lv_at hl 2 rfl) ?_
        refine lv_aload_n hx hb dX4_isPoint_17 rfl (lv_at hl 0 rfl) ?_
        refine va_get (D := (dC, dI)) (ci := 3) (v := .int (um 0 2)) (C := RX4) (T := TX4) (N := 23) hx hb hts iX4 hown hK hP 0 rfl rfl 2 (by decide) (hts _ (xm m530)) (fun _ h9 => h9) rfl dX4_isPoint_18 ?_
        refine lv_icmp_ge (tgt := 28) hx hb dX4_isPoint_21 (by decide) (fun c1 => ?_) (fun c1 => ?_)
        · replace hw := And.left hw c1
          refine lv_iconst (v := 0) hx hb dX4_isPoint_28 (by decide) ?_
          exact W.zret (ty := .boolean) hx hb hr rfl (fun t ht hW => ⟨_, rfl, hw, ht⟩) (fun q h => by cases h) dX4_isPoint_29
        · replace hw := And.right hw c1
          refine lv_iconst (v := 1) hx hb dX4_isPoint_24 (by decide) ?_
          refine lv_goto (tgt := 29) hx hb dX4_isPoint_25 (by decide) ?_
          exact W.zret (ty := .boolean) hx hb hr rfl (fun t ht hW => ⟨_, rfl, hw, ht⟩) (fun q h => by cases h) dX4_isPoint_29
abbrev wX4_thrown : List Cond := Cond.code yX4_thrown cX4_thrown 1 (some .int) :: gG
def wp_X4_thrown (um : Nat → Nat → Int32) (P : Int32 → Prop) : Prop :=
  P (um 0 0)
abbrev rm_X4_thrown : Room := { frames := 0, cells := 0, slots := 0, locals := 0 }
set_option maxHeartbeats 4000000 in
set_option maxRecDepth 100000 in
theorem c_X4_thrown (l : Launch) (dC : Nat → ClassId) (dI : Nat → Nat → Nat) (cA : Nat → ClassId) (gm : Nat → Nat) (um : Nat → Nat → Int32) (P : Int32 → Prop) (hw : wp_X4_thrown um P) : Met l yX4_thrown wX4_thrown rm_X4_thrown (xP1 dC dI cA (w_md gm cA um) [.ref (gm 0)]) (vp_Si P) 0 0 (fun _ => False) := by
  refine Met.ofW (cc := cX4_thrown) (maxL := 1) (ret := (some .int)) (by decide) rfl ?_
  intro p e s m args below meth c s₁ B hml hv
  obtain ⟨hargs, hP, hK⟩ := hv
  have hx := B.exec
  have hb := B.bytes
  have hr := B.returns
  have hts := atoms_spec (ws := wX4_thrown) B.pre
  have hown : s.vm.findClass RX4 = some m.cls := findClass_of_methodNamed B.named
  have hlocks := B.notSynchronized
  have hl := lv_entry ([.ref (gm 0)]) (n := 1) (Nat.le_of_ble_eq_true rfl)
  rw [show entryFrame m args 1 = entryFrame m (([.ref (gm 0)] : List Value).toArray) 1 from by rw [hargs], lg_entry_eq]
  generalize (lg_sl ([.ref (gm 0)]) ++ List.replicate (1 - (lg_sl ([.ref (gm 0)])).length) Slot.unset).toArray = ls at hl ⊢
  have hl : lv_has ls 1 [(0, .ref (gm 0))] := hl
  refine lv_aload_n hx hb dX4_thrown_0 rfl (lv_at hl 0 rfl) ?_
  refine va_get (D := (dC, dI)) (ci := 3) (v := .int (um 0 0)) (C := RX4) (T := TX4) (N := 23) hx hb hts iX4 hown hK hP 0 rfl rfl 0 (by decide) (hts _ (xm m528)) (fun _ h9 => h9) rfl dX4_thrown_1 ?_
  exact W.iret hx hb hr (fun t ht hW => ⟨_, rfl, hw, ht⟩) (fun q h => by cases h) dX4_thrown_4
abbrev wX4_put : List Cond := Cond.code yX4_put cX4_put 16 none :: gG
def wp_X4_put_119 (K : (Nat → Nat → Int32) → Int32 → Prop) (um : Nat → Nat → Int32) (x1 : Int32) (x2 : Int32) (x3 : Int32) (x4 : Int32) (x5 : Int32) (x6 : Int32) (x7 : Int32) (x8 : Int32) (x9 : Int32) (x10 : Int32) (s0 : Int32) (s1 : Int32) : Prop :=
  (vp_in s1 3 ∧ ∀ um3 : Nat → Nat → Int32, um3 = st um 13 s1.toNatClampNeg s0 → ∀ v4 : Int32, v4 = x10 + 1 → K um3 v4)
def wp_X4_put_71 (KX : (Nat → Nat → Int32) → Prop) (x1 : Int32) (x2 : Int32) (x3 : Int32) (x4 : Int32) (x5 : Int32) (x6 : Int32) (x7 : Int32) (x8 : Int32) (x9 : Int32) : Nat → (Nat → Nat → Int32) → Int32 → Prop
  | 0, _, _ => False
  | N71 + 1, um, x10 =>
    ((3 ≤ x10 → KX um) ∧
  (¬ 3 ≤ x10 → (vp_in x1 8 ∧ (((um 2 x1.toNatClampNeg) = 0 → (vp_in ((3 * x6) + x10) 3456 ∧ wp_X4_put_119 (wp_X4_put_71 KX x1 x2 x3 x4 x5 x6 x7 x8 x9 N71) um x1 x2 x3 x4 x5 x6 x7 x8 x9 x10 (um 5 ((3 * x6) + x10).toNatClampNeg) x10)) ∧
  (¬ (um 2 x1.toNatClampNeg) = 0 → (vp_in ((3 * x6) + x10) 3456 ∧ wp_X4_put_119 (wp_X4_put_71 KX x1 x2 x3 x4 x5 x6 x7 x8 x9 N71) um x1 x2 x3 x4 x5 x6 x7 x8 x9 x10 (um 3 ((3 * x6) + x10).toNatClampNeg) x10))))))
def wp_X4_put_392 (K : (Nat → Nat → Int32) → Int32 → Prop) (um : Nat → Nat → Int32) (x4 : Int32) (x5 : Int32) (x6 : Int32) (x7 : Int32) (x8 : Int32) (x10 : Int32) (x11 : Int32) (s0 : Int32) (s1 : Int32) : Prop :=
  (vp_in s1 3456 ∧ ∀ um16 : Nat → Nat → Int32, um16 = st um 5 s1.toNatClampNeg s0 → ∀ v17 : Int32, v17 = x11 + 1 → K um16 v17)
def wp_X4_put_283 (K : (Nat → Nat → Int32) → Int32 → Prop) (um : Nat → Nat → Int32) (x4 : Int32) (x5 : Int32) (x6 : Int32) (x7 : Int32) (x8 : Int32) (x10 : Int32) (x11 : Int32) (x12 : Int32) (s0 : Int32) : Prop :=
  (vp_in ((3 * x6) + x11) 3456 ∧ (vp_in x11 3 ∧ ∀ v14 : Int32, v14 = (((((255 - x4) * x7) * (um 5 ((3 * x6) + x11).toNatClampNeg)) + (((x4 - x5) * x8) * (um 13 x11.toNatClampNeg))) + (x5 * (((255 - x8) * x12) + (x8 * s0)))) → (¬ (255 * x10) = 0 ∧ ∀ v15 : Int32, v15 = ((v14 + ((255 * x10) / 2)) / (255 * x10)) → ((v15 ≤ 255 → wp_X4_put_392 K um x4 x5 x6 x7 x8 x10 x11 v15 ((3 * x6) + x11)) ∧
  (¬ v15 ≤ 255 → wp_X4_put_392 K um x4 x5 x6 x7 x8 x10 x11 255 ((3 * x6) + x11))))))
def wp_X4_put_254 (K : (Nat → Nat → Int32) → Int32 → Prop) (um : Nat → Nat → Int32) (x4 : Int32) (x5 : Int32) (x6 : Int32) (x7 : Int32) (x8 : Int32) (x10 : Int32) (x11 : Int32) (s0 : Int32) : Prop :=
  (vp_in x11 3 ∧ (((um 11 x11.toNatClampNeg) = 0 → (vp_in x11 3 ∧ wp_X4_put_283 K um x4 x5 x6 x7 x8 x10 x11 s0 (um 14 x11.toNatClampNeg))) ∧
  (¬ (um 11 x11.toNatClampNeg) = 0 → (vp_in x11 3 ∧ wp_X4_put_283 K um x4 x5 x6 x7 x8 x10 x11 s0 (um 13 x11.toNatClampNeg)))))
def wp_X4_put_216 (KX : (Nat → Nat → Int32) → Prop) (x4 : Int32) (x5 : Int32) (x6 : Int32) (x7 : Int32) (x8 : Int32) (x10 : Int32) : Nat → (Nat → Nat → Int32) → Int32 → Prop
  | 0, _, _ => False
  | N216 + 1, um, x11 =>
    ((3 ≤ x11 → KX um) ∧
  (¬ 3 ≤ x11 → ((x10 ≤ 0 → KX um) ∧
  (¬ x10 ≤ 0 → (vp_in x11 3 ∧ (((um 11 x11.toNatClampNeg) = 0 → (vp_in x11 3 ∧ wp_X4_put_254 (wp_X4_put_216 KX x4 x5 x6 x7 x8 x10 N216) um x4 x5 x6 x7 x8 x10 x11 (um 12 x11.toNatClampNeg))) ∧
  (¬ (um 11 x11.toNatClampNeg) = 0 → (vp_in x11 3 ∧ wp_X4_put_254 (wp_X4_put_216 KX x4 x5 x6 x7 x8 x10 N216) um x4 x5 x6 x7 x8 x10 x11 (um 13 x11.toNatClampNeg)))))))))
def wp_X4_put_66 (P : (Nat → Nat → Int32) → Prop) (um : Nat → Nat → Int32) (x1 : Int32) (x2 : Int32) (x3 : Int32) (x4 : Int32) (x5 : Int32) (x6 : Int32) (x7 : Int32) (x8 : Int32) (s0 : Int32) : Prop :=
  (∃ N71, wp_X4_put_71 (fun (um7 : Nat → Nat → Int32) => wp_X4_mix um7 x3 (fun (um9 : Nat → Nat → Int32) => (vp_in x6 1152 ∧ (vp_in x6 1152 ∧ ∀ um10 : Nat → Nat → Int32, um10 = st um9 6 x6.toNatClampNeg ((((((255 - x4) * (um9 6 x6.toNatClampNeg)) + ((x4 - x5) * s0)) + (255 * x5)) + 127) / 255) → (vp_in x6 1152 ∧ (vp_in x6 1152 ∧ wp_X4_mul (um10 7 x6.toNatClampNeg) x4 (fun r11 => (vp_in x6 1152 ∧ ∀ um12 : Nat → Nat → Int32, um12 = st um10 7 x6.toNatClampNeg (((um10 7 x6.toNatClampNeg) + x4) - r11) → wp_X4_alphaOf um12 x1 x2 (fun r13 => (∃ N216, wp_X4_put_216 (fun (um23 : Nat → Nat → Int32) => P um23) x4 x5 x6 x7 x8 r13 N216 um12 0)))))))))) x1 x2 x3 x4 x5 x6 x7 x8 s0 N71 um 0)
def wp_X4_put_44 (P : (Nat → Nat → Int32) → Prop) (um : Nat → Nat → Int32) (x1 : Int32) (x2 : Int32) (x3 : Int32) (x4 : Int32) (x5 : Int32) (x6 : Int32) (x7 : Int32) (s0 : Int32) : Prop :=
  (vp_in x1 8 ∧ (((um 2 x1.toNatClampNeg) = 0 → (vp_in x6 1152 ∧ wp_X4_put_66 P um x1 x2 x3 x4 x5 x6 x7 s0 (um 6 x6.toNatClampNeg))) ∧
  (¬ (um 2 x1.toNatClampNeg) = 0 → wp_X4_put_66 P um x1 x2 x3 x4 x5 x6 x7 s0 0)))
def wp_X4_put (um : Nat → Nat → Int32) (p0 : Int32) (p1 : Int32) (p2 : Int32) (p3 : Int32) (p4 : Int32) (P : (Nat → Nat → Int32) → Prop) : Prop :=
  ((¬ p3 = 0 → ∀ v1 : Int32, v1 = ((144 * p0) + p1) → wp_X4_alphaOf um p0 p1 (fun r2 => (vp_in p0 8 ∧ (((um 2 p0.toNatClampNeg) = 0 → wp_X4_put_44 P um p0 p1 p2 p3 p4 v1 r2 r2) ∧
  (¬ (um 2 p0.toNatClampNeg) = 0 → (vp_in v1 1152 ∧ wp_X4_put_44 P um p0 p1 p2 p3 p4 v1 r2 (um 4 v1.toNatClampNeg))))))) ∧
  (p3 = 0 → P um))
abbrev rm_X4_put : Room := { frames := 4, cells := 0, slots := 0, locals := 90 }
set_option maxHeartbeats 4000000 in
set_option maxRecDepth 100000 in
theorem c_X4_put (l : Launch) (dC : Nat → ClassId) (dI : Nat → Nat → Nat) (cA : Nat → ClassId) (gm : Nat → Nat) (sz : Nat) (um : Nat → Nat → Int32) (p0 : Int32) (p1 : Int32) (p2 : Int32) (p3 : Int32) (p4 : Int32) (P : (Nat → Nat → Int32) → Prop) (hw : wp_X4_put um p0 p1 p2 p3 p4 P) : Met l yX4_put wX4_put rm_X4_put (xP2 dC dI cA (w_md gm cA um) sz [.ref (gm 0), .int p0, .int p1, .int p2, .int p3, .int p4]) (va_Qv (fun (u : (Nat → Nat → Int32)) => P u) (xB dC dI cA (fun u : (Nat → Nat → Int32) => w_md gm cA u) (va_A (w_md gm cA um) sz)) (va_A (w_md gm cA um) sz)) 0 0 (va_A (w_md gm cA um) sz) := by
  refine Met.ofW (cc := cX4_put) (maxL := 16) (ret := none) (by decide) rfl ?_
  intro p e s m args below meth c s₁ B hml hv
  obtain ⟨hargs, hsz, hP, hK, hD0⟩ := hv
  have hx := B.exec
  have hb := B.bytes
  have hr := B.returns
  have hts := atoms_spec (ws := wX4_put) B.pre
  have hown : s.vm.findClass RX4 = some m.cls := findClass_of_methodNamed B.named
  have hlocks := B.notSynchronized
  subst hsz
  have hD := hD0.self (sz := s.heap.size)
  generalize hAe : va_A (w_md gm cA um) s.heap.size = A at hD ⊢
  have hA : ∀ q : Nat, s.heap.size ≤ q → A q := fun q h => by rw [← hAe]; exact Or.inr h
  have hS : va_S A s.heap s.heap [] := va_S.rf
  clear hAe hD0
  have J119 : ∀ (K : (Nat → Nat → Int32) → Int32 → Prop) (um : Nat → Nat → Int32) (x1 : Int32) (x2 : Int32) (x3 : Int32) (x4 : Int32) (x5 : Int32) (x6 : Int32) (x7 : Int32) (x8 : Int32) (x9 : Int32) (x10 : Int32) (s0 : Int32) (s1 : Int32), wp_X4_put_119 K um x1 x2 x3 x4 x5 x6 x7 x8 x9 x10 s0 s1 → (∀ (um : Nat → Nat → Int32) (x10 : Int32), K um x10 → ∀ (H : Heap) (locs : List Loc) (ls : Array Slot), va_P (dC, dI) vwCl (w_md gm cA um) H → va_D A (w_md gm cA um) → va_S A s.heap H locs → lv_has ls 16 [(0, .ref (gm 0)), (1, .int x1), (2, .int x2), (3, .int x3), (4, .int x4), (5, .int x5), (6, .int x6), (7, .int x7), (8, .int x8), (9, .int x9), (10, .int x10)] → W p l e (headSpec wX4_put rm_X4_put).room s m args below meth c H locs 0 0 (MQ below (va_Qv (fun (u : (Nat → Nat → Int32)) => P u) (xB dC dI cA (fun u : (Nat → Nat → Int32) => w_md gm cA u) A) A) args s 0 0 A) (F0 m 71 ls [])) → ∀ (H : Heap) (locs : List Loc) (ls : Array Slot), va_P (dC, dI) vwCl (w_md gm cA um) H → va_D A (w_md gm cA um) → va_S A s.heap H locs → lv_has ls 16 [(0, .ref (gm 0)), (1, .int x1), (2, .int x2), (3, .int x3), (4, .int x4), (5, .int x5), (6, .int x6), (7, .int x7), (8, .int x8), (9, .int x9), (10, .int x10)] → W p l e (headSpec wX4_put rm_X4_put).room s m args below meth c H locs 0 0 (MQ below (va_Qv (fun (u : (Nat → Nat → Int32)) => P u) (xB dC dI cA (fun u : (Nat → Nat → Int32) => w_md gm cA u) A) A) args s 0 0 A) (F0 m 119 ls [.int s0, .int s1, .ref (gm 13)]) := by
    intro K um x1 x2 x3 x4 x5 x6 x7 x8 x9 x10 s0 s1 hw hk H locs ls hP hD hS hl
    obtain ⟨um3, e_um3⟩ : ∃ z, z = st um 13 s1.toNatClampNeg s0 := ⟨_, rfl⟩
    refine va_iast hx hb hK hP hD hS 13 0 rfl rfl (And.left hw) dX4_put_119 (fun H locs hP hD hS => ?_)
    replace hw := And.right hw
    replace hw := hw um3 e_um3
    have hP : va_P (dC, dI) vwCl (w_md gm cA um3) H := by rw [e_um3]; exact hP
    have hD : va_D A (w_md gm cA um3) := by rw [e_um3]; exact hD
    obtain ⟨v4, e_v4⟩ : ∃ y : Int32, y = x10 + 1 := ⟨_, rfl⟩
    replace hw := hw v4 e_v4
    refine lv_iinc (v := v4) (lv' := [(10, .int v4), (0, .ref (gm 0)), (1, .int x1), (2, .int x2), (3, .int x3), (4, .int x4), (5, .int x5), (6, .int x6), (7, .int x7), (8, .int x8), (9, .int x9)]) hx hb dX4_put_120 hl (k := 10) rfl (by rw [e_v4]; rfl) (by decide) rfl (fun ls hl => ?_)
    refine lv_goto (tgt := 71) hx hb dX4_put_123 (by decide) ?_
    exact hk _ _ hw _ _ _ hP hD hS (lv_sub hl [1, 2, 3, 4, 5, 6, 7, 8, 9, 10, 0] rfl)
  have L71 : ∀ (KX : (Nat → Nat → Int32) → Prop) (x1 : Int32) (x2 : Int32) (x3 : Int32) (x4 : Int32) (x5 : Int32) (x6 : Int32) (x7 : Int32) (x8 : Int32) (x9 : Int32), (∀ (um : Nat → Nat → Int32), KX um → ∀ (H : Heap) (locs : List Loc) (ls : Array Slot), va_P (dC, dI) vwCl (w_md gm cA um) H → va_D A (w_md gm cA um) → va_S A s.heap H locs → lv_has ls 16 [(0, .ref (gm 0)), (1, .int x1), (2, .int x2), (3, .int x3), (4, .int x4), (5, .int x5), (6, .int x6), (7, .int x7), (8, .int x8), (9, .int x9)] → W p l e (headSpec wX4_put rm_X4_put).room s m args below meth c H locs 0 0 (MQ below (va_Qv (fun (u : (Nat → Nat → Int32)) => P u) (xB dC dI cA (fun u : (Nat → Nat → Int32) => w_md gm cA u) A) A) args s 0 0 A) (F0 m 126 ls [])) → ∀ (N : Nat) (um : Nat → Nat → Int32) (x10 : Int32), wp_X4_put_71 KX x1 x2 x3 x4 x5 x6 x7 x8 x9 N um x10 → ∀ (H : Heap) (locs : List Loc) (ls : Array Slot), va_P (dC, dI) vwCl (w_md gm cA um) H → va_D A (w_md gm cA um) → va_S A s.heap H locs → lv_has ls 16 [(0, .ref (gm 0)), (1, .int x1), (2, .int x2), (3, .int x3), (4, .int x4), (5, .int x5), (6, .int x6), (7, .int x7), (8, .int x8), (9, .int x9), (10, .int x10)] → W p l e (headSpec wX4_put rm_X4_put).room s m args below meth c H locs 0 0 (MQ below (va_Qv (fun (u : (Nat → Nat → Int32)) => P u) (xB dC dI cA (fun u : (Nat → Nat → Int32) => w_md gm cA u) A) A) args s 0 0 A) (F0 m 71 ls []) := by
    intro KX x1 x2 x3 x4 x5 x6 x7 x8 x9 hx2 N71
    induction N71 with
    | zero =>
      intro um x10 hw
      exact False.elim hw
    | succ N71 hk =>
      intro um x10 hw H locs ls hP hD hS hl
      rw [wp_X4_put_71] at hw
      refine lv_iload hx hb dX4_put_71 (lv_at hl 10 rfl) ?_
      refine lv_iconst (v := 3) hx hb dX4_put_73 (by decide) ?_
      refine lv_icmp_ge (tgt := 126) hx hb dX4_put_74 (by decide) (fun c6 => ?_) (fun c6 => ?_)
      · replace hw := And.left hw c6
        exact hx2 _ hw _ _ _ hP hD hS (lv_sub hl [0, 1, 2, 3, 4, 5, 6, 7, 8, 9] rfl)
      · replace hw := And.right hw c6
        refine lv_aload_n hx hb dX4_put_77 rfl (lv_at hl 0 rfl) ?_
        refine va_get (D := (dC, dI)) (ci := 3) (v := .ref (gm 13)) (C := RX4) (T := TX4) (N := 23) hx hb hts iX4 hown hK hP 0 rfl rfl 20 (by decide) (hts _ (xm m548)) (fun _ h9 => h9) rfl dX4_put_78 ?_
        refine lv_iload hx hb dX4_put_81 (lv_at hl 10 rfl) ?_
        refine lv_aload_n hx hb dX4_put_83 rfl (lv_at hl 0 rfl) ?_
        refine va_get (D := (dC, dI)) (ci := 3) (v := .ref (gm 2)) (C := RX4) (T := TX4) (N := 23) hx hb hts iX4 hown hK hP 0 rfl rfl 7 (by decide) (hts _ (xm m535)) (fun _ h9 => h9) rfl dX4_put_84 ?_
        refine lv_iload_n hx hb dX4_put_87 rfl (lv_at hl 1 rfl) ?_
        refine va_zald hx hb hK hP 2 1 rfl rfl (And.left hw) dX4_put_88 ?_
        replace hw := And.right hw
        refine lv_if_eq (tgt := 107) hx hb dX4_put_89 (by decide) (fun c5 => ?_) (fun c5 => ?_)
        · replace hw := And.left hw c5
          refine lv_aload_n hx hb dX4_put_107 rfl (lv_at hl 0 rfl) ?_
          refine va_get (D := (dC, dI)) (ci := 3) (v := .ref (gm 5)) (C := RX4) (T := TX4) (N := 23) hx hb hts iX4 hown hK hP 0 rfl rfl 10 (by decide) (hts _ (xm m538)) (fun _ h9 => h9) rfl dX4_put_108 ?_
          refine lv_iconst (v := 3) hx hb dX4_put_111 (by decide) ?_
          refine lv_iload hx hb dX4_put_112 (lv_at hl 6 rfl) ?_
          refine lv_imul hx hb dX4_put_114 ?_
          refine lv_iload hx hb dX4_put_115 (lv_at hl 10 rfl) ?_
          refine lv_iadd hx hb dX4_put_117 ?_
          refine va_iald hx hb hK hP 5 0 rfl rfl (And.left hw) dX4_put_118 ?_
          replace hw := And.right hw
          exact J119 _ _ _ _ _ _ _ _ _ _ _ _ _ _ hw hk _ _ _ hP hD hS (lv_sub hl [0, 1, 2, 3, 4, 5, 6, 7, 8, 9, 10] rfl)
        · replace hw := And.right hw c5
          refine lv_aload_n hx hb dX4_put_92 rfl (lv_at hl 0 rfl) ?_
          refine va_get (D := (dC, dI)) (ci := 3) (v := .ref (gm 3)) (C := RX4) (T := TX4) (N := 23) hx hb hts iX4 hown hK hP 0 rfl rfl 8 (by decide) (hts _ (xm m536)) (fun _ h9 => h9) rfl dX4_put_93 ?_
          refine lv_iconst (v := 3) hx hb dX4_put_96 (by decide) ?_
          refine lv_iload hx hb dX4_put_97 (lv_at hl 6 rfl) ?_
          refine lv_imul hx hb dX4_put_99 ?_
          refine lv_iload hx hb dX4_put_100 (lv_at hl 10 rfl) ?_
          refine lv_iadd hx hb dX4_put_102 ?_
          refine va_iald hx hb hK hP 3 0 rfl rfl (And.left hw) dX4_put_103 ?_
          replace hw := And.right hw
          refine lv_goto (tgt := 119) hx hb dX4_put_104 (by decide) ?_
          exact J119 _ _ _ _ _ _ _ _ _ _ _ _ _ _ hw hk _ _ _ hP hD hS (lv_sub hl [0, 1, 2, 3, 4, 5, 6, 7, 8, 9, 10] rfl)
  have J392 : ∀ (K : (Nat → Nat → Int32) → Int32 → Prop) (um : Nat → Nat → Int32) (x4 : Int32) (x5 : Int32) (x6 : Int32) (x7 : Int32) (x8 : Int32) (x10 : Int32) (x11 : Int32) (s0 : Int32) (s1 : Int32), wp_X4_put_392 K um x4 x5 x6 x7 x8 x10 x11 s0 s1 → (∀ (um : Nat → Nat → Int32) (x11 : Int32), K um x11 → ∀ (H : Heap) (locs : List Loc) (ls : Array Slot), va_P (dC, dI) vwCl (w_md gm cA um) H → va_D A (w_md gm cA um) → va_S A s.heap H locs → lv_has ls 16 [(0, .ref (gm 0)), (4, .int x4), (5, .int x5), (6, .int x6), (7, .int x7), (8, .int x8), (10, .int x10), (11, .int x11)] → W p l e (headSpec wX4_put rm_X4_put).room s m args below meth c H locs 0 0 (MQ below (va_Qv (fun (u : (Nat → Nat → Int32)) => P u) (xB dC dI cA (fun u : (Nat → Nat → Int32) => w_md gm cA u) A) A) args s 0 0 A) (F0 m 216 ls [])) → ∀ (H : Heap) (locs : List Loc) (ls : Array Slot), va_P (dC, dI) vwCl (w_md gm cA um) H → va_D A (w_md gm cA um) → va_S A s.heap H locs → lv_has ls 16 [(0, .ref (gm 0)), (4, .int x4), (5, .int x5), (6, .int x6), (7, .int x7), (8, .int x8), (10, .int x10), (11, .int x11)] → W p l e (headSpec wX4_put rm_X4_put).room s m args below meth c H locs 0 0 (MQ below (va_Qv (fun (u : (Nat → Nat → Int32)) => P u) (xB dC dI cA (fun u : (Nat → Nat → Int32) => w_md gm cA u) A) A) args s 0 0 A) (F0 m 392 ls [.int s0, .int s1, .ref (gm 5)]) := by
    intro K um x4 x5 x6 x7 x8 x10 x11 s0 s1 hw hk H locs ls hP hD hS hl
    obtain ⟨um16, e_um16⟩ : ∃ z, z = st um 5 s1.toNatClampNeg s0 := ⟨_, rfl⟩
    refine va_iast hx hb hK hP hD hS 5 0 rfl rfl (And.left hw) dX4_put_392 (fun H locs hP hD hS => ?_)
    replace hw := And.right hw
    replace hw := hw um16 e_um16
    have hP : va_P (dC, dI) vwCl (w_md gm cA um16) H := by rw [e_um16]; exact hP
    have hD : va_D A (w_md gm cA um16) := by rw [e_um16]; exact hD
    obtain ⟨v17, e_v17⟩ : ∃ y : Int32, y = x11 + 1 := ⟨_, rfl⟩
    replace hw := hw v17 e_v17
    refine lv_iinc (v := v17) (lv' := [(11, .int v17), (0, .ref (gm 0)), (4, .int x4), (5, .int x5), (6, .int x6), (7, .int x7), (8, .int x8), (10, .int x10)]) hx hb dX4_put_393 hl (k := 7) rfl (by rw [e_v17]; rfl) (by decide) rfl (fun ls hl => ?_)
    refine lv_goto (tgt := 216) hx hb dX4_put_396 (by decide) ?_
    exact hk _ _ hw _ _ _ hP hD hS (lv_sub hl [1, 2, 3, 4, 5, 6, 7, 0] rfl)
  have J283 : ∀ (K : (Nat → Nat → Int32) → Int32 → Prop) (um : Nat → Nat → Int32) (x4 : Int32) (x5 : Int32) (x6 : Int32) (x7 : Int32) (x8 : Int32) (x10 : Int32) (x11 : Int32) (x12 : Int32) (s0 : Int32), wp_X4_put_283 K um x4 x5 x6 x7 x8 x10 x11 x12 s0 → (∀ (um : Nat → Nat → Int32) (x11 : Int32), K um x11 → ∀ (H : Heap) (locs : List Loc) (ls : Array Slot), va_P (dC, dI) vwCl (w_md gm cA um) H → va_D A (w_md gm cA um) → va_S A s.heap H locs → lv_has ls 16 [(0, .ref (gm 0)), (4, .int x4), (5, .int x5), (6, .int x6), (7, .int x7), (8, .int x8), (10, .int x10), (11, .int x11)] → W p l e (headSpec wX4_put rm_X4_put).room s m args below meth c H locs 0 0 (MQ below (va_Qv (fun (u : (Nat → Nat → Int32)) => P u) (xB dC dI cA (fun u : (Nat → Nat → Int32) => w_md gm cA u) A) A) args s 0 0 A) (F0 m 216 ls [])) → ∀ (H : Heap) (locs : List Loc) (ls : Array Slot), va_P (dC, dI) vwCl (w_md gm cA um) H → va_D A (w_md gm cA um) → va_S A s.heap H locs → lv_has ls 16 [(0, .ref (gm 0)), (4, .int x4), (5, .int x5), (6, .int x6), (7, .int x7), (8, .int x8), (10, .int x10), (11, .int x11), (12, .int x12)] → W p l e (headSpec wX4_put rm_X4_put).room s m args below meth c H locs 0 0 (MQ below (va_Qv (fun (u : (Nat → Nat → Int32)) => P u) (xB dC dI cA (fun u : (Nat → Nat → Int32) => w_md gm cA u) A) A) args s 0 0 A) (F0 m 283 ls [.int s0]) := by
    intro K um x4 x5 x6 x7 x8 x10 x11 x12 s0 hw hk H locs ls hP hD hS hl
    refine lv_istore (lv' := [(13, .int s0), (0, .ref (gm 0)), (4, .int x4), (5, .int x5), (6, .int x6), (7, .int x7), (8, .int x8), (10, .int x10), (11, .int x11), (12, .int x12)]) hx hb dX4_put_283 hl (by decide) rfl (fun ls hl => ?_)
    refine lv_sipush (v := 255) hx hb dX4_put_285 (by decide) ?_
    refine lv_iload hx hb dX4_put_288 (lv_at hl 2 rfl) ?_
    refine lv_isub hx hb dX4_put_290 ?_
    refine lv_iload hx hb dX4_put_291 (lv_at hl 5 rfl) ?_
    refine lv_imul hx hb dX4_put_293 ?_
    refine lv_aload_n hx hb dX4_put_294 rfl (lv_at hl 1 rfl) ?_
    refine va_get (D := (dC, dI)) (ci := 3) (v := .ref (gm 5)) (C := RX4) (T := TX4) (N := 23) hx hb hts iX4 hown hK hP 0 rfl rfl 10 (by decide) (hts _ (xm m538)) (fun _ h9 => h9) rfl dX4_put_295 ?_
    refine lv_iconst (v := 3) hx hb dX4_put_298 (by decide) ?_
    refine lv_iload hx hb dX4_put_299 (lv_at hl 4 rfl) ?_
    refine lv_imul hx hb dX4_put_301 ?_
    refine lv_iload hx hb dX4_put_302 (lv_at hl 8 rfl) ?_
    refine lv_iadd hx hb dX4_put_304 ?_
    refine va_iald hx hb hK hP 5 0 rfl rfl (And.left hw) dX4_put_305 ?_
    replace hw := And.right hw
    refine lv_imul hx hb dX4_put_306 ?_
    refine lv_iload hx hb dX4_put_307 (lv_at hl 2 rfl) ?_
    refine lv_iload hx hb dX4_put_309 (lv_at hl 3 rfl) ?_
    refine lv_isub hx hb dX4_put_311 ?_
    refine lv_iload hx hb dX4_put_312 (lv_at hl 6 rfl) ?_
    refine lv_imul hx hb dX4_put_314 ?_
    refine lv_aload_n hx hb dX4_put_315 rfl (lv_at hl 1 rfl) ?_
    refine va_get (D := (dC, dI)) (ci := 3) (v := .ref (gm 13)) (C := RX4) (T := TX4) (N := 23) hx hb hts iX4 hown hK hP 0 rfl rfl 20 (by decide) (hts _ (xm m548)) (fun _ h9 => h9) rfl dX4_put_316 ?_
    refine lv_iload hx hb dX4_put_319 (lv_at hl 8 rfl) ?_
    refine va_iald hx hb hK hP 13 0 rfl rfl (And.left hw) dX4_put_321 ?_
    replace hw := And.right hw
    refine lv_imul hx hb dX4_put_322 ?_
    refine lv_iadd hx hb dX4_put_323 ?_
    refine lv_iload hx hb dX4_put_324 (lv_at hl 3 rfl) ?_
    refine lv_sipush (v := 255) hx hb dX4_put_326 (by decide) ?_
    refine lv_iload hx hb dX4_put_329 (lv_at hl 6 rfl) ?_
    refine lv_isub hx hb dX4_put_331 ?_
    refine lv_iload hx hb dX4_put_332 (lv_at hl 9 rfl) ?_
    refine lv_imul hx hb dX4_put_334 ?_
    refine lv_iload hx hb dX4_put_335 (lv_at hl 6 rfl) ?_
    refine lv_iload hx hb dX4_put_337 (lv_at hl 0 rfl) ?_
    refine lv_imul hx hb dX4_put_339 ?_
    refine lv_iadd hx hb dX4_put_340 ?_
    refine lv_imul hx hb dX4_put_341 ?_
    refine lv_iadd hx hb dX4_put_342 ?_
    refine lv_topi (fun v14 e_v14 => ?_)
    replace hw := hw v14 e_v14
    refine lv_istore (lv' := [(14, .int v14), (13, .int s0), (0, .ref (gm 0)), (4, .int x4), (5, .int x5), (6, .int x6), (7, .int x7), (8, .int x8), (10, .int x10), (11, .int x11), (12, .int x12)]) hx hb dX4_put_343 hl (by decide) rfl (fun ls hl => ?_)
    refine lv_iload hx hb dX4_put_345 (lv_at hl 0 rfl) ?_
    refine lv_sipush (v := 255) hx hb dX4_put_347 (by decide) ?_
    refine lv_iload hx hb dX4_put_350 (lv_at hl 8 rfl) ?_
    refine lv_imul hx hb dX4_put_352 ?_
    refine lv_iconst (v := 2) hx hb dX4_put_353 (by decide) ?_
    refine lv_idiv hx hb dX4_put_354 (by decide) ?_
    refine lv_iadd hx hb dX4_put_355 ?_
    refine lv_sipush (v := 255) hx hb dX4_put_356 (by decide) ?_
    refine lv_iload hx hb dX4_put_359 (lv_at hl 8 rfl) ?_
    refine lv_imul hx hb dX4_put_361 ?_
    refine lv_idiv hx hb dX4_put_362 (And.left hw) ?_
    replace hw := And.right hw
    refine lv_topi (fun v15 e_v15 => ?_)
    replace hw := hw v15 e_v15
    refine lv_istore (lv' := [(15, .int v15), (14, .int v14), (13, .int s0), (0, .ref (gm 0)), (4, .int x4), (5, .int x5), (6, .int x6), (7, .int x7), (8, .int x8), (10, .int x10), (11, .int x11), (12, .int x12)]) hx hb dX4_put_363 hl (by decide) rfl (fun ls hl => ?_)
    refine lv_aload_n hx hb dX4_put_365 rfl (lv_at hl 3 rfl) ?_
    refine va_get (D := (dC, dI)) (ci := 3) (v := .ref (gm 5)) (C := RX4) (T := TX4) (N := 23) hx hb hts iX4 hown hK hP 0 rfl rfl 10 (by decide) (hts _ (xm m538)) (fun _ h9 => h9) rfl dX4_put_366 ?_
    refine lv_iconst (v := 3) hx hb dX4_put_369 (by decide) ?_
    refine lv_iload hx hb dX4_put_370 (lv_at hl 6 rfl) ?_
    refine lv_imul hx hb dX4_put_372 ?_
    refine lv_iload hx hb dX4_put_373 (lv_at hl 10 rfl) ?_
    refine lv_iadd hx hb dX4_put_375 ?_
    refine lv_iload hx hb dX4_put_376 (lv_at hl 0 rfl) ?_
    refine lv_sipush (v := 255) hx hb dX4_put_378 (by decide) ?_
    refine lv_icmp_le (tgt := 390) hx hb dX4_put_381 (by decide) (fun c18 => ?_) (fun c18 => ?_)
    · replace hw := And.left hw c18
      refine lv_iload hx hb dX4_put_390 (lv_at hl 0 rfl) ?_
      exact J392 _ _ _ _ _ _ _ _ _ _ _ hw hk _ _ _ hP hD hS (lv_sub hl [3, 4, 5, 6, 7, 8, 9, 10] rfl)
    · replace hw := And.right hw c18
      refine lv_sipush (v := 255) hx hb dX4_put_384 (by decide) ?_
      refine lv_goto (tgt := 392) hx hb dX4_put_387 (by decide) ?_
      exact J392 _ _ _ _ _ _ _ _ _ _ _ hw hk _ _ _ hP hD hS (lv_sub hl [3, 4, 5, 6, 7, 8, 9, 10] rfl)
  have J254 : ∀ (K : (Nat → Nat → Int32) → Int32 → Prop) (um : Nat → Nat → Int32) (x4 : Int32) (x5 : Int32) (x6 : Int32) (x7 : Int32) (x8 : Int32) (x10 : Int32) (x11 : Int32) (s0 : Int32), wp_X4_put_254 K um x4 x5 x6 x7 x8 x10 x11 s0 → (∀ (um : Nat → Nat → Int32) (x11 : Int32), K um x11 → ∀ (H : Heap) (locs : List Loc) (ls : Array Slot), va_P (dC, dI) vwCl (w_md gm cA um) H → va_D A (w_md gm cA um) → va_S A s.heap H locs → lv_has ls 16 [(0, .ref (gm 0)), (4, .int x4), (5, .int x5), (6, .int x6), (7, .int x7), (8, .int x8), (10, .int x10), (11, .int x11)] → W p l e (headSpec wX4_put rm_X4_put).room s m args below meth c H locs 0 0 (MQ below (va_Qv (fun (u : (Nat → Nat → Int32)) => P u) (xB dC dI cA (fun u : (Nat → Nat → Int32) => w_md gm cA u) A) A) args s 0 0 A) (F0 m 216 ls [])) → ∀ (H : Heap) (locs : List Loc) (ls : Array Slot), va_P (dC, dI) vwCl (w_md gm cA um) H → va_D A (w_md gm cA um) → va_S A s.heap H locs → lv_has ls 16 [(0, .ref (gm 0)), (4, .int x4), (5, .int x5), (6, .int x6), (7, .int x7), (8, .int x8), (10, .int x10), (11, .int x11)] → W p l e (headSpec wX4_put rm_X4_put).room s m args below meth c H locs 0 0 (MQ below (va_Qv (fun (u : (Nat → Nat → Int32)) => P u) (xB dC dI cA (fun u : (Nat → Nat → Int32) => w_md gm cA u) A) A) args s 0 0 A) (F0 m 254 ls [.int s0]) := by
    intro K um x4 x5 x6 x7 x8 x10 x11 s0 hw hk H locs ls hP hD hS hl
    refine lv_istore (lv' := [(12, .int s0), (0, .ref (gm 0)), (4, .int x4), (5, .int x5), (6, .int x6), (7, .int x7), (8, .int x8), (10, .int x10), (11, .int x11)]) hx hb dX4_put_254 hl (by decide) rfl (fun ls hl => ?_)
    refine lv_aload_n hx hb dX4_put_256 rfl (lv_at hl 1 rfl) ?_
    refine va_get (D := (dC, dI)) (ci := 3) (v := .ref (gm 11)) (C := RX4) (T := TX4) (N := 23) hx hb hts iX4 hown hK hP 0 rfl rfl 17 (by decide) (hts _ (xm m545)) (fun _ h9 => h9) rfl dX4_put_257 ?_
    refine lv_iload hx hb dX4_put_260 (lv_at hl 8 rfl) ?_
    refine va_zald hx hb hK hP 11 1 rfl rfl (And.left hw) dX4_put_262 ?_
    replace hw := And.right hw
    refine lv_if_eq (tgt := 276) hx hb dX4_put_263 (by decide) (fun c19 => ?_) (fun c19 => ?_)
    · replace hw := And.left hw c19
      refine lv_aload_n hx hb dX4_put_276 rfl (lv_at hl 1 rfl) ?_
      refine va_get (D := (dC, dI)) (ci := 3) (v := .ref (gm 14)) (C := RX4) (T := TX4) (N := 23) hx hb hts iX4 hown hK hP 0 rfl rfl 21 (by decide) (hts _ (xm m549)) (fun _ h9 => h9) rfl dX4_put_277 ?_
      refine lv_iload hx hb dX4_put_280 (lv_at hl 8 rfl) ?_
      refine va_iald hx hb hK hP 14 0 rfl rfl (And.left hw) dX4_put_282 ?_
      replace hw := And.right hw
      exact J283 _ _ _ _ _ _ _ _ _ _ _ hw hk _ _ _ hP hD hS (lv_sub hl [1, 2, 3, 4, 5, 6, 7, 8, 0] rfl)
    · replace hw := And.right hw c19
      refine lv_aload_n hx hb dX4_put_266 rfl (lv_at hl 1 rfl) ?_
      refine va_get (D := (dC, dI)) (ci := 3) (v := .ref (gm 13)) (C := RX4) (T := TX4) (N := 23) hx hb hts iX4 hown hK hP 0 rfl rfl 20 (by decide) (hts _ (xm m548)) (fun _ h9 => h9) rfl dX4_put_267 ?_
      refine lv_iload hx hb dX4_put_270 (lv_at hl 8 rfl) ?_
      refine va_iald hx hb hK hP 13 0 rfl rfl (And.left hw) dX4_put_272 ?_
      replace hw := And.right hw
      refine lv_goto (tgt := 283) hx hb dX4_put_273 (by decide) ?_
      exact J283 _ _ _ _ _ _ _ _ _ _ _ hw hk _ _ _ hP hD hS (lv_sub hl [1, 2, 3, 4, 5, 6, 7, 8, 0] rfl)
  have L216 : ∀ (KX : (Nat → Nat → Int32) → Prop) (x4 : Int32) (x5 : Int32) (x6 : Int32) (x7 : Int32) (x8 : Int32) (x10 : Int32), (∀ (um : Nat → Nat → Int32), KX um → ∀ (H : Heap) (locs : List Loc) (ls : Array Slot), va_P (dC, dI) vwCl (w_md gm cA um) H → va_D A (w_md gm cA um) → va_S A s.heap H locs → lv_has ls 16 [] → W p l e (headSpec wX4_put rm_X4_put).room s m args below meth c H locs 0 0 (MQ below (va_Qv (fun (u : (Nat → Nat → Int32)) => P u) (xB dC dI cA (fun u : (Nat → Nat → Int32) => w_md gm cA u) A) A) args s 0 0 A) (F0 m 399 ls [])) → ∀ (N : Nat) (um : Nat → Nat → Int32) (x11 : Int32), wp_X4_put_216 KX x4 x5 x6 x7 x8 x10 N um x11 → ∀ (H : Heap) (locs : List Loc) (ls : Array Slot), va_P (dC, dI) vwCl (w_md gm cA um) H → va_D A (w_md gm cA um) → va_S A s.heap H locs → lv_has ls 16 [(0, .ref (gm 0)), (4, .int x4), (5, .int x5), (6, .int x6), (7, .int x7), (8, .int x8), (10, .int x10), (11, .int x11)] → W p l e (headSpec wX4_put rm_X4_put).room s m args below meth c H locs 0 0 (MQ below (va_Qv (fun (u : (Nat → Nat → Int32)) => P u) (xB dC dI cA (fun u : (Nat → Nat → Int32) => w_md gm cA u) A) A) args s 0 0 A) (F0 m 216 ls []) := by
    intro KX x4 x5 x6 x7 x8 x10 hx2 N216
    induction N216 with
    | zero =>
      intro um x11 hw
      exact False.elim hw
    | succ N216 hk =>
      intro um x11 hw H locs ls hP hD hS hl
      rw [wp_X4_put_216] at hw
      refine lv_iload hx hb dX4_put_216 (lv_at hl 7 rfl) ?_
      refine lv_iconst (v := 3) hx hb dX4_put_218 (by decide) ?_
      refine lv_icmp_ge (tgt := 399) hx hb dX4_put_219 (by decide) (fun c22 => ?_) (fun c22 => ?_)
      · replace hw := And.left hw c22
        exact hx2 _ hw _ _ _ hP hD hS (lv_sub hl [] rfl)
      · replace hw := And.right hw c22
        refine lv_iload hx hb dX4_put_222 (lv_at hl 6 rfl) ?_
        refine lv_if_le (tgt := 399) hx hb dX4_put_224 (by decide) (fun c21 => ?_) (fun c21 => ?_)
        · replace hw := And.left hw c21
          exact hx2 _ hw _ _ _ hP hD hS (lv_sub hl [] rfl)
        · replace hw := And.right hw c21
          refine lv_aload_n hx hb dX4_put_227 rfl (lv_at hl 0 rfl) ?_
          refine va_get (D := (dC, dI)) (ci := 3) (v := .ref (gm 11)) (C := RX4) (T := TX4) (N := 23) hx hb hts iX4 hown hK hP 0 rfl rfl 17 (by decide) (hts _ (xm m545)) (fun _ h9 => h9) rfl dX4_put_228 ?_
          refine lv_iload hx hb dX4_put_231 (lv_at hl 7 rfl) ?_
          refine va_zald hx hb hK hP 11 1 rfl rfl (And.left hw) dX4_put_233 ?_
          replace hw := And.right hw
          refine lv_if_eq (tgt := 247) hx hb dX4_put_234 (by decide) (fun c20 => ?_) (fun c20 => ?_)
          · replace hw := And.left hw c20
            refine lv_aload_n hx hb dX4_put_247 rfl (lv_at hl 0 rfl) ?_
            refine va_get (D := (dC, dI)) (ci := 3) (v := .ref (gm 12)) (C := RX4) (T := TX4) (N := 23) hx hb hts iX4 hown hK hP 0 rfl rfl 19 (by decide) (hts _ (xm m547)) (fun _ h9 => h9) rfl dX4_put_248 ?_
            refine lv_iload hx hb dX4_put_251 (lv_at hl 7 rfl) ?_
            refine va_iald hx hb hK hP 12 0 rfl rfl (And.left hw) dX4_put_253 ?_
            replace hw := And.right hw
            exact J254 _ _ _ _ _ _ _ _ _ _ hw hk _ _ _ hP hD hS (lv_sub hl [0, 1, 2, 3, 4, 5, 6, 7] rfl)
          · replace hw := And.right hw c20
            refine lv_aload_n hx hb dX4_put_237 rfl (lv_at hl 0 rfl) ?_
            refine va_get (D := (dC, dI)) (ci := 3) (v := .ref (gm 13)) (C := RX4) (T := TX4) (N := 23) hx hb hts iX4 hown hK hP 0 rfl rfl 20 (by decide) (hts _ (xm m548)) (fun _ h9 => h9) rfl dX4_put_238 ?_
            refine lv_iload hx hb dX4_put_241 (lv_at hl 7 rfl) ?_
            refine va_iald hx hb hK hP 13 0 rfl rfl (And.left hw) dX4_put_243 ?_
            replace hw := And.right hw
            refine lv_goto (tgt := 254) hx hb dX4_put_244 (by decide) ?_
            exact J254 _ _ _ _ _ _ _ _ _ _ hw hk _ _ _ hP hD hS (lv_sub hl [0, 1, 2, 3, 4, 5, 6, 7] rfl)
  have J66 : ∀ (um : Nat → Nat → Int32) (x1 : Int32) (x2 : Int32) (x3 : Int32) (x4 : Int32) (x5 : Int32) (x6 : Int32) (x7 : Int32) (x8 : Int32) (s0 : Int32), wp_X4_put_66 P um x1 x2 x3 x4 x5 x6 x7 x8 s0 → ∀ (H : Heap) (locs : List Loc) (ls : Array Slot), va_P (dC, dI) vwCl (w_md gm cA um) H → va_D A (w_md gm cA um) → va_S A s.heap H locs → lv_has ls 16 [(0, .ref (gm 0)), (1, .int x1), (2, .int x2), (3, .int x3), (4, .int x4), (5, .int x5), (6, .int x6), (7, .int x7), (8, .int x8)] → W p l e (headSpec wX4_put rm_X4_put).room s m args below meth c H locs 0 0 (MQ below (va_Qv (fun (u : (Nat → Nat → Int32)) => P u) (xB dC dI cA (fun u : (Nat → Nat → Int32) => w_md gm cA u) A) A) args s 0 0 A) (F0 m 66 ls [.int s0]) := by
    intro  um x1 x2 x3 x4 x5 x6 x7 x8 s0 hw H locs ls hP hD hS hl
    refine lv_istore (lv' := [(9, .int s0), (0, .ref (gm 0)), (1, .int x1), (2, .int x2), (3, .int x3), (4, .int x4), (5, .int x5), (6, .int x6), (7, .int x7), (8, .int x8)]) hx hb dX4_put_66 hl (by decide) rfl (fun ls hl => ?_)
    refine lv_iconst (v := 0) hx hb dX4_put_68 (by decide) ?_
    refine lv_istore (lv' := [(10, .int 0), (9, .int s0), (0, .ref (gm 0)), (1, .int x1), (2, .int x2), (3, .int x3), (4, .int x4), (5, .int x5), (6, .int x6), (7, .int x7), (8, .int x8)]) hx hb dX4_put_69 hl (by decide) rfl (fun ls hl => ?_)
    obtain ⟨N71, hw⟩ := hw
    refine L71 _ _ _ _ _ _ _ _ _ _ (fun um7 hw H locs ls hP hD hS hl => ?_) N71 _ _ hw _ _ _ hP hD hS (lv_sub hl [2, 3, 4, 5, 6, 7, 8, 9, 10, 1, 0] rfl)
    refine lv_aload_n hx hb dX4_put_126 rfl (lv_at hl 0 rfl) ?_
    refine lv_iload_n hx hb dX4_put_127 rfl (lv_at hl 3 rfl) ?_
    have hPc : va_P (dC, dI) vwCl (w_md gm cA um7) _ := hP
    have hDc := hD.sub (ws' := (w_md gm cA um7)) [0, 1, 2, 3, 4, 5, 6, 7, 8, 9, 10, 11, 12, 13, 14, 15] (by decide) rfl
    have hFc := va_free (wc := (w_md gm cA um7)) hD hS hA [0, 1, 2, 3, 4, 5, 6, 7, 8, 9, 10, 11, 12, 13, 14, 15] rfl
    refine va_callv (va_runV (As := [.int x3]) (rest := []) ⟨hx, hb, hml, hown, hts⟩ (c_X4_mix l dC dI cA gm _ um7 x3 _ hw) (gcV 1 hts m652 m649 m651 m14 m24 rfl rfl (by decide +kernel) ⟨Nat.le_of_ble_eq_true rfl, Nat.le_of_ble_eq_true rfl⟩) ⟨xbl2, va_recv hK hPc (ci := 3) (q0 := 0) rfl rfl, fun U hU hW => ⟨rfl, by rw [hU], by rw [hU]; exact hPc, va_K.moved hW.alike hK, hDc.weaken (fun _ _ _ _ => trivial)⟩⟩ rfl rfl hl.1 rfl (lv_room (Nat.le_of_ble_eq_true rfl)) dX4_put_128 ⟨Nat.le_of_ble_eq_true rfl, Nat.le_of_ble_eq_true rfl⟩) hS (fun q _ h => hFc q h) hFc (fun u t H1 locs ht hvm hw hB hz1 hk1 hS => ?_)
    obtain ⟨um9, e_u⟩ : ∃ z, z = u := ⟨_, rfl⟩
    subst e_u
    obtain ⟨hP1, hK1, hD1⟩ := hB
    rw [ht] at hP1
    have hP : va_P (dC, dI) vwCl (w_md gm cA um9) H1 := hP1
    have hD : va_D A (w_md gm cA um9) := hD1.weaken (fun k q hk h => hFc q.1 h)
    clear hP1 hD1 hK1 hk1 hz1 hFc hDc hPc ht
    generalize H1 = H at hP hS ⊢
    refine lv_aload_n hx hb dX4_put_131 rfl (lv_at hl 0 rfl) ?_
    refine va_get (D := (dC, dI)) (ci := 3) (v := .ref (gm 6)) (C := RX4) (T := TX4) (N := 23) hx hb hts iX4 hown hK hP 0 rfl rfl 11 (by decide) (hts _ (xm m539)) (fun _ h9 => h9) rfl dX4_put_132 ?_
    refine lv_iload hx hb dX4_put_135 (lv_at hl 6 rfl) ?_
    refine lv_sipush (v := 255) hx hb dX4_put_137 (by decide) ?_
    refine lv_iload hx hb dX4_put_140 (lv_at hl 4 rfl) ?_
    refine lv_isub hx hb dX4_put_142 ?_
    refine lv_aload_n hx hb dX4_put_143 rfl (lv_at hl 0 rfl) ?_
    refine va_get (D := (dC, dI)) (ci := 3) (v := .ref (gm 6)) (C := RX4) (T := TX4) (N := 23) hx hb hts iX4 hown hK hP 0 rfl rfl 11 (by decide) (hts _ (xm m539)) (fun _ h9 => h9) rfl dX4_put_144 ?_
    refine lv_iload hx hb dX4_put_147 (lv_at hl 6 rfl) ?_
    refine va_iald hx hb hK hP 6 0 rfl rfl (And.left hw) dX4_put_149 ?_
    replace hw := And.right hw
    refine lv_imul hx hb dX4_put_150 ?_
    refine lv_iload hx hb dX4_put_151 (lv_at hl 4 rfl) ?_
    refine lv_iload hx hb dX4_put_153 (lv_at hl 5 rfl) ?_
    refine lv_isub hx hb dX4_put_155 ?_
    refine lv_iload hx hb dX4_put_156 (lv_at hl 9 rfl) ?_
    refine lv_imul hx hb dX4_put_158 ?_
    refine lv_iadd hx hb dX4_put_159 ?_
    refine lv_sipush (v := 255) hx hb dX4_put_160 (by decide) ?_
    refine lv_iload hx hb dX4_put_163 (lv_at hl 5 rfl) ?_
    refine lv_imul hx hb dX4_put_165 ?_
    refine lv_iadd hx hb dX4_put_166 ?_
    refine lv_bipush (v := 127) hx hb dX4_put_167 (by decide) ?_
    refine lv_iadd hx hb dX4_put_169 ?_
    refine lv_sipush (v := 255) hx hb dX4_put_170 (by decide) ?_
    refine lv_idiv hx hb dX4_put_173 (by decide) ?_
    obtain ⟨um10, e_um10⟩ : ∃ z, z = st um9 6 x6.toNatClampNeg ((((((255 - x4) * (um9 6 x6.toNatClampNeg)) + ((x4 - x5) * s0)) + (255 * x5)) + 127) / 255) := ⟨_, rfl⟩
    refine va_iast hx hb hK hP hD hS 6 0 rfl rfl (And.left hw) dX4_put_174 (fun H locs hP hD hS => ?_)
    replace hw := And.right hw
    replace hw := hw um10 e_um10
    have hP : va_P (dC, dI) vwCl (w_md gm cA um10) H := by rw [e_um10]; exact hP
    have hD : va_D A (w_md gm cA um10) := by rw [e_um10]; exact hD
    refine lv_aload_n hx hb dX4_put_175 rfl (lv_at hl 0 rfl) ?_
    refine va_get (D := (dC, dI)) (ci := 3) (v := .ref (gm 7)) (C := RX4) (T := TX4) (N := 23) hx hb hts iX4 hown hK hP 0 rfl rfl 12 (by decide) (hts _ (xm m540)) (fun _ h9 => h9) rfl dX4_put_176 ?_
    refine lv_iload hx hb dX4_put_179 (lv_at hl 6 rfl) ?_
    refine lv_aload_n hx hb dX4_put_181 rfl (lv_at hl 0 rfl) ?_
    refine va_get (D := (dC, dI)) (ci := 3) (v := .ref (gm 7)) (C := RX4) (T := TX4) (N := 23) hx hb hts iX4 hown hK hP 0 rfl rfl 12 (by decide) (hts _ (xm m540)) (fun _ h9 => h9) rfl dX4_put_182 ?_
    refine lv_iload hx hb dX4_put_185 (lv_at hl 6 rfl) ?_
    refine va_iald hx hb hK hP 7 0 rfl rfl (And.left hw) dX4_put_187 ?_
    replace hw := And.right hw
    refine lv_iload hx hb dX4_put_188 (lv_at hl 4 rfl) ?_
    refine lv_iadd hx hb dX4_put_190 ?_
    refine lv_aload_n hx hb dX4_put_191 rfl (lv_at hl 0 rfl) ?_
    refine va_get (D := (dC, dI)) (ci := 3) (v := .ref (gm 7)) (C := RX4) (T := TX4) (N := 23) hx hb hts iX4 hown hK hP 0 rfl rfl 12 (by decide) (hts _ (xm m540)) (fun _ h9 => h9) rfl dX4_put_192 ?_
    refine lv_iload hx hb dX4_put_195 (lv_at hl 6 rfl) ?_
    refine va_iald hx hb hK hP 7 0 rfl rfl (And.left hw) dX4_put_197 ?_
    replace hw := And.right hw
    refine lv_iload hx hb dX4_put_198 (lv_at hl 4 rfl) ?_
    refine vp_callSi (va_Run.run (va_runS (As := [.int (um10 7 x6.toNatClampNeg), .int x4]) (rest := [.int ((um10 7 x6.toNatClampNeg) + x4), .int x6, .ref (gm 7)]) ⟨hx, hb, hml, hown, hts⟩ (c_X4_mul l (um10 7 x6.toNatClampNeg) x4 _ hw) (gcS 2 hts m621 m619 m620 m24 rfl rfl (by decide +kernel) ⟨Nat.le_of_ble_eq_true rfl, Nat.le_of_ble_eq_true rfl⟩) ⟨xbl0, fun U hU hW => ⟨rfl, trivial⟩⟩ rfl rfl hl.1 rfl (lv_room (Nat.le_of_ble_eq_true rfl)) dX4_put_200 ⟨Nat.le_of_ble_eq_true rfl, Nat.le_of_ble_eq_true rfl⟩)) (fun r11 hw => ?_)
    refine lv_isub hx hb dX4_put_203 ?_
    obtain ⟨um12, e_um12⟩ : ∃ z, z = st um10 7 x6.toNatClampNeg (((um10 7 x6.toNatClampNeg) + x4) - r11) := ⟨_, rfl⟩
    refine va_iast hx hb hK hP hD hS 7 0 rfl rfl (And.left hw) dX4_put_204 (fun H locs hP hD hS => ?_)
    replace hw := And.right hw
    replace hw := hw um12 e_um12
    have hP : va_P (dC, dI) vwCl (w_md gm cA um12) H := by rw [e_um12]; exact hP
    have hD : va_D A (w_md gm cA um12) := by rw [e_um12]; exact hD
    refine lv_aload_n hx hb dX4_put_205 rfl (lv_at hl 0 rfl) ?_
    refine lv_iload_n hx hb dX4_put_206 rfl (lv_at hl 1 rfl) ?_
    refine lv_iload_n hx hb dX4_put_207 rfl (lv_at hl 2 rfl) ?_
    have hPc : va_P (dC, dI) vwCl (w_md gm cA um12) _ := hP
    refine vp_callSi (va_Run.run (va_runV (As := [.int x1, .int x2]) (rest := []) ⟨hx, hb, hml, hown, hts⟩ (c_X4_alphaOf l dC dI cA gm um12 x1 x2 _ hw) (gcV 2 hts m618 m615 m617 m8 m24 rfl rfl (by decide +kernel) ⟨Nat.le_of_ble_eq_true rfl, Nat.le_of_ble_eq_true rfl⟩) ⟨xbl1, va_recv hK hPc (ci := 3) (q0 := 0) rfl rfl, fun U hU hW => ⟨rfl, by rw [hU]; exact hPc, va_K.moved hW.alike hK⟩⟩ rfl rfl hl.1 rfl (lv_room (Nat.le_of_ble_eq_true rfl)) dX4_put_208 ⟨Nat.le_of_ble_eq_true rfl, Nat.le_of_ble_eq_true rfl⟩)) (fun r13 hw => ?_)
    refine lv_istore (lv' := [(10, .int r13), (0, .ref (gm 0)), (1, .int x1), (2, .int x2), (3, .int x3), (4, .int x4), (5, .int x5), (6, .int x6), (7, .int x7), (8, .int x8), (9, .int s0)]) hx hb dX4_put_211 hl (by decide) rfl (fun ls hl => ?_)
    refine lv_iconst (v := 0) hx hb dX4_put_213 (by decide) ?_
    refine lv_istore (lv' := [(11, .int 0), (10, .int r13), (0, .ref (gm 0)), (1, .int x1), (2, .int x2), (3, .int x3), (4, .int x4), (5, .int x5), (6, .int x6), (7, .int x7), (8, .int x8), (9, .int s0)]) hx hb dX4_put_214 hl (by decide) rfl (fun ls hl => ?_)
    obtain ⟨N216, hw⟩ := hw
    refine L216 _ _ _ _ _ _ _ (fun um23 hw H locs ls hP hD hS hl => ?_) N216 _ _ hw _ _ _ hP hD hS (lv_sub hl [2, 6, 7, 8, 9, 10, 1, 0] rfl)
    exact W.vret hx hb hr (fun t ht hW => ⟨⟨um23, rfl, hw, by rw [ht]; exact hP, va_K.moved hW.alike hK, hD⟩, hS.F ht⟩) hS.2.2 dX4_put_399
  have J44 : ∀ (um : Nat → Nat → Int32) (x1 : Int32) (x2 : Int32) (x3 : Int32) (x4 : Int32) (x5 : Int32) (x6 : Int32) (x7 : Int32) (s0 : Int32), wp_X4_put_44 P um x1 x2 x3 x4 x5 x6 x7 s0 → ∀ (H : Heap) (locs : List Loc) (ls : Array Slot), va_P (dC, dI) vwCl (w_md gm cA um) H → va_D A (w_md gm cA um) → va_S A s.heap H locs → lv_has ls 16 [(0, .ref (gm 0)), (1, .int x1), (2, .int x2), (3, .int x3), (4, .int x4), (5, .int x5), (6, .int x6), (7, .int x7)] → W p l e (headSpec wX4_put rm_X4_put).room s m args below meth c H locs 0 0 (MQ below (va_Qv (fun (u : (Nat → Nat → Int32)) => P u) (xB dC dI cA (fun u : (Nat → Nat → Int32) => w_md gm cA u) A) A) args s 0 0 A) (F0 m 44 ls [.int s0]) := by
    intro  um x1 x2 x3 x4 x5 x6 x7 s0 hw H locs ls hP hD hS hl
    refine lv_istore (lv' := [(8, .int s0), (0, .ref (gm 0)), (1, .int x1), (2, .int x2), (3, .int x3), (4, .int x4), (5, .int x5), (6, .int x6), (7, .int x7)]) hx hb dX4_put_44 hl (by decide) rfl (fun ls hl => ?_)
    refine lv_aload_n hx hb dX4_put_46 rfl (lv_at hl 1 rfl) ?_
    refine va_get (D := (dC, dI)) (ci := 3) (v := .ref (gm 2)) (C := RX4) (T := TX4) (N := 23) hx hb hts iX4 hown hK hP 0 rfl rfl 7 (by decide) (hts _ (xm m535)) (fun _ h9 => h9) rfl dX4_put_47 ?_
    refine lv_iload_n hx hb dX4_put_50 rfl (lv_at hl 2 rfl) ?_
    refine va_zald hx hb hK hP 2 1 rfl rfl (And.left hw) dX4_put_51 ?_
    replace hw := And.right hw
    refine lv_if_eq (tgt := 59) hx hb dX4_put_52 (by decide) (fun c24 => ?_) (fun c24 => ?_)
    · replace hw := And.left hw c24
      refine lv_aload_n hx hb dX4_put_59 rfl (lv_at hl 1 rfl) ?_
      refine va_get (D := (dC, dI)) (ci := 3) (v := .ref (gm 6)) (C := RX4) (T := TX4) (N := 23) hx hb hts iX4 hown hK hP 0 rfl rfl 11 (by decide) (hts _ (xm m539)) (fun _ h9 => h9) rfl dX4_put_60 ?_
      refine lv_iload hx hb dX4_put_63 (lv_at hl 7 rfl) ?_
      refine va_iald hx hb hK hP 6 0 rfl rfl (And.left hw) dX4_put_65 ?_
      replace hw := And.right hw
      exact J66 _ _ _ _ _ _ _ _ _ _ hw _ _ _ hP hD hS (lv_sub hl [1, 2, 3, 4, 5, 6, 7, 8, 0] rfl)
    · replace hw := And.right hw c24
      refine lv_iconst (v := 0) hx hb dX4_put_55 (by decide) ?_
      refine lv_goto (tgt := 66) hx hb dX4_put_56 (by decide) ?_
      exact J66 _ _ _ _ _ _ _ _ _ _ hw _ _ _ hP hD hS (lv_sub hl [1, 2, 3, 4, 5, 6, 7, 8, 0] rfl)
  have hl := lv_entry ([.ref (gm 0), .int p0, .int p1, .int p2, .int p3, .int p4]) (n := 16) (Nat.le_of_ble_eq_true rfl)
  rw [show entryFrame m args 16 = entryFrame m (([.ref (gm 0), .int p0, .int p1, .int p2, .int p3, .int p4] : List Value).toArray) 16 from by rw [hargs], lg_entry_eq]
  generalize (lg_sl ([.ref (gm 0), .int p0, .int p1, .int p2, .int p3, .int p4]) ++ List.replicate (16 - (lg_sl ([.ref (gm 0), .int p0, .int p1, .int p2, .int p3, .int p4])).length) Slot.unset).toArray = ls at hl ⊢
  have hl : lv_has ls 16 [(0, .ref (gm 0)), (1, .int p0), (2, .int p1), (3, .int p2), (4, .int p3), (5, .int p4)] := hl
  have hP : va_P (dC, dI) vwCl (w_md gm cA um) s.heap := hP
  refine lv_iload hx hb dX4_put_0 (lv_at hl 4 rfl) ?_
  refine lv_if_ne (tgt := 6) hx hb dX4_put_2 (by decide) (fun c26 => ?_) (fun c26 => ?_)
  · replace hw := And.left hw c26
    refine lv_sipush (v := 144) hx hb dX4_put_6 (by decide) ?_
    refine lv_iload_n hx hb dX4_put_9 rfl (lv_at hl 1 rfl) ?_
    refine lv_imul hx hb dX4_put_10 ?_
    refine lv_iload_n hx hb dX4_put_11 rfl (lv_at hl 2 rfl) ?_
    refine lv_iadd hx hb dX4_put_12 ?_
    refine lv_topi (fun v1 e_v1 => ?_)
    replace hw := hw v1 e_v1
    refine lv_istore (lv' := [(6, .int v1), (0, .ref (gm 0)), (1, .int p0), (2, .int p1), (3, .int p2), (4, .int p3), (5, .int p4)]) hx hb dX4_put_13 hl (by decide) rfl (fun ls hl => ?_)
    refine lv_aload_n hx hb dX4_put_15 rfl (lv_at hl 1 rfl) ?_
    refine lv_iload_n hx hb dX4_put_16 rfl (lv_at hl 2 rfl) ?_
    refine lv_iload_n hx hb dX4_put_17 rfl (lv_at hl 3 rfl) ?_
    have hPc : va_P (dC, dI) vwCl (w_md gm cA um) _ := hP
    refine vp_callSi (va_Run.run (va_runV (As := [.int p0, .int p1]) (rest := []) ⟨hx, hb, hml, hown, hts⟩ (c_X4_alphaOf l dC dI cA gm um p0 p1 _ hw) (gcV 2 hts m618 m615 m617 m8 m24 rfl rfl (by decide +kernel) ⟨Nat.le_of_ble_eq_true rfl, Nat.le_of_ble_eq_true rfl⟩) ⟨xbl1, va_recv hK hPc (ci := 3) (q0 := 0) rfl rfl, fun U hU hW => ⟨rfl, by rw [hU]; exact hPc, va_K.moved hW.alike hK⟩⟩ rfl rfl hl.1 rfl (lv_room (Nat.le_of_ble_eq_true rfl)) dX4_put_18 ⟨Nat.le_of_ble_eq_true rfl, Nat.le_of_ble_eq_true rfl⟩)) (fun r2 hw => ?_)
    refine lv_istore (lv' := [(7, .int r2), (6, .int v1), (0, .ref (gm 0)), (1, .int p0), (2, .int p1), (3, .int p2), (4, .int p3), (5, .int p4)]) hx hb dX4_put_21 hl (by decide) rfl (fun ls hl => ?_)
    refine lv_aload_n hx hb dX4_put_23 rfl (lv_at hl 2 rfl) ?_
    refine va_get (D := (dC, dI)) (ci := 3) (v := .ref (gm 2)) (C := RX4) (T := TX4) (N := 23) hx hb hts iX4 hown hK hP 0 rfl rfl 7 (by decide) (hts _ (xm m535)) (fun _ h9 => h9) rfl dX4_put_24 ?_
    refine lv_iload_n hx hb dX4_put_27 rfl (lv_at hl 3 rfl) ?_
    refine va_zald hx hb hK hP 2 1 rfl rfl (And.left hw) dX4_put_28 ?_
    replace hw := And.right hw
    refine lv_if_eq (tgt := 42) hx hb dX4_put_29 (by decide) (fun c25 => ?_) (fun c25 => ?_)
    · replace hw := And.left hw c25
      refine lv_iload hx hb dX4_put_42 (lv_at hl 0 rfl) ?_
      exact J44 _ _ _ _ _ _ _ _ _ hw _ _ _ hP hD hS (lv_sub hl [2, 3, 4, 5, 6, 7, 1, 0] rfl)
    · replace hw := And.right hw c25
      refine lv_aload_n hx hb dX4_put_32 rfl (lv_at hl 2 rfl) ?_
      refine va_get (D := (dC, dI)) (ci := 3) (v := .ref (gm 4)) (C := RX4) (T := TX4) (N := 23) hx hb hts iX4 hown hK hP 0 rfl rfl 9 (by decide) (hts _ (xm m537)) (fun _ h9 => h9) rfl dX4_put_33 ?_
      refine lv_iload hx hb dX4_put_36 (lv_at hl 1 rfl) ?_
      refine va_iald hx hb hK hP 4 0 rfl rfl (And.left hw) dX4_put_38 ?_
      replace hw := And.right hw
      refine lv_goto (tgt := 44) hx hb dX4_put_39 (by decide) ?_
      exact J44 _ _ _ _ _ _ _ _ _ hw _ _ _ hP hD hS (lv_sub hl [2, 3, 4, 5, 6, 7, 1, 0] rfl)
  · replace hw := And.right hw c26
    exact W.vret hx hb hr (fun t ht hW => ⟨⟨um, rfl, hw, by rw [ht]; exact hP, va_K.moved hW.alike hK, hD⟩, hS.F ht⟩) hS.2.2 dX4_put_5
abbrev wX4_result : List Cond := Cond.code yX4_result cX4_result 9 none :: gG
def wp_X4_result_125 (K : (Nat → Nat → Int32) → Int32 → Prop) (um : Nat → Nat → Int32) (x3 : Int32) (x4 : Int32) (x5 : Int32) (x6 : Int32) (s0 : Int32) (s1 : Int32) : Prop :=
  (vp_in s1 3 ∧ ∀ um5 : Nat → Nat → Int32, um5 = st um 12 s1.toNatClampNeg s0 → ∀ v6 : Int32, v6 = x6 + 1 → K um5 v6)
def wp_X4_result_92 (K : (Nat → Nat → Int32) → Int32 → Prop) (um : Nat → Nat → Int32) (x3 : Int32) (x4 : Int32) (x5 : Int32) (x6 : Int32) (s0 : Int32) : Prop :=
  ((0 ≤ s0 → ((s0 ≤ 255 → wp_X4_result_125 K um x3 x4 x5 x6 s0 x6) ∧
  (¬ s0 ≤ 255 → wp_X4_result_125 K um x3 x4 x5 x6 255 x6))) ∧
  (¬ 0 ≤ s0 → wp_X4_result_125 K um x3 x4 x5 x6 0 x6))
def wp_X4_result_27 (KX : (Nat → Nat → Int32) → Prop) (x3 : Int32) (x4 : Int32) (x5 : Int32) : Nat → (Nat → Nat → Int32) → Int32 → Prop
  | 0, _, _ => False
  | N27 + 1, um, x6 =>
    ((3 ≤ x6 → KX um) ∧
  (¬ 3 ≤ x6 → (vp_in ((3 * x3) + x6) 3456 ∧ ∀ v4 : Int32, v4 = (um 5 ((3 * x3) + x6).toNatClampNeg) → ((x4 ≤ 0 → wp_X4_result_92 (wp_X4_result_27 KX x3 x4 x5 N27) um x3 x4 x5 x6 0) ∧
  (¬ x4 ≤ 0 → (vp_in ((3 * x3) + x6) 3456 ∧ (¬ (255 * x4) = 0 ∧ wp_X4_result_92 (wp_X4_result_27 KX x3 x4 x5 N27) um x3 x4 x5 x6 (v4 + (((v4 - (um 3 ((3 * x3) + x6).toNatClampNeg)) * ((x5 * 255) - (x5 * x4))) / (255 * x4))))))))))
def wp_X4_result (um : Nat → Nat → Int32) (p0 : Int32) (p1 : Int32) (P : (Nat → Nat → Int32) → Prop) : Prop :=
  ∀ v1 : Int32, v1 = ((144 * p0) + p1) → (vp_in v1 1152 ∧ ∀ v2 : Int32, v2 = (um 6 v1.toNatClampNeg) → (vp_in v1 1152 ∧ ∀ v3 : Int32, v3 = (um 4 v1.toNatClampNeg) → (∃ N27, wp_X4_result_27 (fun (um11 : Nat → Nat → Int32) => P um11) v1 v2 v3 N27 um 0)))
abbrev rm_X4_result : Room := { frames := 0, cells := 0, slots := 0, locals := 0 }
set_option maxHeartbeats 4000000 in
set_option maxRecDepth 100000 in
theorem c_X4_result (l : Launch) (dC : Nat → ClassId) (dI : Nat → Nat → Nat) (cA : Nat → ClassId) (gm : Nat → Nat) (sz : Nat) (um : Nat → Nat → Int32) (p0 : Int32) (p1 : Int32) (P : (Nat → Nat → Int32) → Prop) (hw : wp_X4_result um p0 p1 P) : Met l yX4_result wX4_result rm_X4_result (xP2 dC dI cA (w_md gm cA um) sz [.ref (gm 0), .int p0, .int p1]) (va_Qv (fun (u : (Nat → Nat → Int32)) => P u) (xB dC dI cA (fun u : (Nat → Nat → Int32) => w_md gm cA u) (va_A (w_md gm cA um) sz)) (va_A (w_md gm cA um) sz)) 0 0 (va_A (w_md gm cA um) sz) := by
  refine Met.ofW (cc := cX4_result) (maxL := 9) (ret := none) (by decide) rfl ?_
  intro p e s m args below meth c s₁ B hml hv
  obtain ⟨hargs, hsz, hP, hK, hD0⟩ := hv
  have hx := B.exec
  have hb := B.bytes
  have hr := B.returns
  have hts := atoms_spec (ws := wX4_result) B.pre
  have hown : s.vm.findClass RX4 = some m.cls := findClass_of_methodNamed B.named
  have hlocks := B.notSynchronized
  subst hsz
  have hD := hD0.self (sz := s.heap.size)
  generalize hAe : va_A (w_md gm cA um) s.heap.size = A at hD ⊢
  have hA : ∀ q : Nat, s.heap.size ≤ q → A q := fun q h => by rw [← hAe]; exact Or.inr h
  have hS : va_S A s.heap s.heap [] := va_S.rf
  clear hAe hD0
  have J125 : ∀ (K : (Nat → Nat → Int32) → Int32 → Prop) (um : Nat → Nat → Int32) (x3 : Int32) (x4 : Int32) (x5 : Int32) (x6 : Int32) (s0 : Int32) (s1 : Int32), wp_X4_result_125 K um x3 x4 x5 x6 s0 s1 → (∀ (um : Nat → Nat → Int32) (x6 : Int32), K um x6 → ∀ (H : Heap) (locs : List Loc) (ls : Array Slot), va_P (dC, dI) vwCl (w_md gm cA um) H → va_D A (w_md gm cA um) → va_S A s.heap H locs → lv_has ls 9 [(0, .ref (gm 0)), (3, .int x3), (4, .int x4), (5, .int x5), (6, .int x6)] → W p l e (headSpec wX4_result rm_X4_result).room s m args below meth c H locs 0 0 (MQ below (va_Qv (fun (u : (Nat → Nat → Int32)) => P u) (xB dC dI cA (fun u : (Nat → Nat → Int32) => w_md gm cA u) A) A) args s 0 0 A) (F0 m 27 ls [])) → ∀ (H : Heap) (locs : List Loc) (ls : Array Slot), va_P (dC, dI) vwCl (w_md gm cA um) H → va_D A (w_md gm cA um) → va_S A s.heap H locs → lv_has ls 9 [(0, .ref (gm 0)), (3, .int x3), (4, .int x4), (5, .int x5), (6, .int x6)] → W p l e (headSpec wX4_result rm_X4_result).room s m args below meth c H locs 0 0 (MQ below (va_Qv (fun (u : (Nat → Nat → Int32)) => P u) (xB dC dI cA (fun u : (Nat → Nat → Int32) => w_md gm cA u) A) A) args s 0 0 A) (F0 m 125 ls [.int s0, .int s1, .ref (gm 12)]) := by
    intro K um x3 x4 x5 x6 s0 s1 hw hk H locs ls hP hD hS hl
    obtain ⟨um5, e_um5⟩ : ∃ z, z = st um 12 s1.toNatClampNeg s0 := ⟨_, rfl⟩
    refine va_iast hx hb hK hP hD hS 12 0 rfl rfl (And.left hw) dX4_result_125 (fun H locs hP hD hS => ?_)
    replace hw := And.right hw
    replace hw := hw um5 e_um5
    have hP : va_P (dC, dI) vwCl (w_md gm cA um5) H := by rw [e_um5]; exact hP
    have hD : va_D A (w_md gm cA um5) := by rw [e_um5]; exact hD
    obtain ⟨v6, e_v6⟩ : ∃ y : Int32, y = x6 + 1 := ⟨_, rfl⟩
    replace hw := hw v6 e_v6
    refine lv_iinc (v := v6) (lv' := [(6, .int v6), (0, .ref (gm 0)), (3, .int x3), (4, .int x4), (5, .int x5)]) hx hb dX4_result_126 hl (k := 4) rfl (by rw [e_v6]; rfl) (by decide) rfl (fun ls hl => ?_)
    refine lv_goto (tgt := 27) hx hb dX4_result_129 (by decide) ?_
    exact hk _ _ hw _ _ _ hP hD hS (lv_sub hl [1, 2, 3, 4, 0] rfl)
  have J92 : ∀ (K : (Nat → Nat → Int32) → Int32 → Prop) (um : Nat → Nat → Int32) (x3 : Int32) (x4 : Int32) (x5 : Int32) (x6 : Int32) (s0 : Int32), wp_X4_result_92 K um x3 x4 x5 x6 s0 → (∀ (um : Nat → Nat → Int32) (x6 : Int32), K um x6 → ∀ (H : Heap) (locs : List Loc) (ls : Array Slot), va_P (dC, dI) vwCl (w_md gm cA um) H → va_D A (w_md gm cA um) → va_S A s.heap H locs → lv_has ls 9 [(0, .ref (gm 0)), (3, .int x3), (4, .int x4), (5, .int x5), (6, .int x6)] → W p l e (headSpec wX4_result rm_X4_result).room s m args below meth c H locs 0 0 (MQ below (va_Qv (fun (u : (Nat → Nat → Int32)) => P u) (xB dC dI cA (fun u : (Nat → Nat → Int32) => w_md gm cA u) A) A) args s 0 0 A) (F0 m 27 ls [])) → ∀ (H : Heap) (locs : List Loc) (ls : Array Slot), va_P (dC, dI) vwCl (w_md gm cA um) H → va_D A (w_md gm cA um) → va_S A s.heap H locs → lv_has ls 9 [(0, .ref (gm 0)), (3, .int x3), (4, .int x4), (5, .int x5), (6, .int x6)] → W p l e (headSpec wX4_result rm_X4_result).room s m args below meth c H locs 0 0 (MQ below (va_Qv (fun (u : (Nat → Nat → Int32)) => P u) (xB dC dI cA (fun u : (Nat → Nat → Int32) => w_md gm cA u) A) A) args s 0 0 A) (F0 m 92 ls [.int s0]) := by
    intro K um x3 x4 x5 x6 s0 hw hk H locs ls hP hD hS hl
    refine lv_istore (lv' := [(8, .int s0), (0, .ref (gm 0)), (3, .int x3), (4, .int x4), (5, .int x5), (6, .int x6)]) hx hb dX4_result_92 hl (by decide) rfl (fun ls hl => ?_)
    refine lv_aload_n hx hb dX4_result_94 rfl (lv_at hl 1 rfl) ?_
    refine va_get (D := (dC, dI)) (ci := 3) (v := .ref (gm 12)) (C := RX4) (T := TX4) (N := 23) hx hb hts iX4 hown hK hP 0 rfl rfl 19 (by decide) (hts _ (xm m547)) (fun _ h9 => h9) rfl dX4_result_95 ?_
    refine lv_iload hx hb dX4_result_98 (lv_at hl 5 rfl) ?_
    refine lv_iload hx hb dX4_result_100 (lv_at hl 0 rfl) ?_
    refine lv_if_ge (tgt := 109) hx hb dX4_result_102 (by decide) (fun c8 => ?_) (fun c8 => ?_)
    · replace hw := And.left hw c8
      refine lv_iload hx hb dX4_result_109 (lv_at hl 0 rfl) ?_
      refine lv_sipush (v := 255) hx hb dX4_result_111 (by decide) ?_
      refine lv_icmp_le (tgt := 123) hx hb dX4_result_114 (by decide) (fun c7 => ?_) (fun c7 => ?_)
      · replace hw := And.left hw c7
        refine lv_iload hx hb dX4_result_123 (lv_at hl 0 rfl) ?_
        exact J125 _ _ _ _ _ _ _ _ hw hk _ _ _ hP hD hS (lv_sub hl [1, 2, 3, 4, 5] rfl)
      · replace hw := And.right hw c7
        refine lv_sipush (v := 255) hx hb dX4_result_117 (by decide) ?_
        refine lv_goto (tgt := 125) hx hb dX4_result_120 (by decide) ?_
        exact J125 _ _ _ _ _ _ _ _ hw hk _ _ _ hP hD hS (lv_sub hl [1, 2, 3, 4, 5] rfl)
    · replace hw := And.right hw c8
      refine lv_iconst (v := 0) hx hb dX4_result_105 (by decide) ?_
      refine lv_goto (tgt := 125) hx hb dX4_result_106 (by decide) ?_
      exact J125 _ _ _ _ _ _ _ _ hw hk _ _ _ hP hD hS (lv_sub hl [1, 2, 3, 4, 5] rfl)
  have L27 : ∀ (KX : (Nat → Nat → Int32) → Prop) (x3 : Int32) (x4 : Int32) (x5 : Int32), (∀ (um : Nat → Nat → Int32), KX um → ∀ (H : Heap) (locs : List Loc) (ls : Array Slot), va_P (dC, dI) vwCl (w_md gm cA um) H → va_D A (w_md gm cA um) → va_S A s.heap H locs → lv_has ls 9 [] → W p l e (headSpec wX4_result rm_X4_result).room s m args below meth c H locs 0 0 (MQ below (va_Qv (fun (u : (Nat → Nat → Int32)) => P u) (xB dC dI cA (fun u : (Nat → Nat → Int32) => w_md gm cA u) A) A) args s 0 0 A) (F0 m 132 ls [])) → ∀ (N : Nat) (um : Nat → Nat → Int32) (x6 : Int32), wp_X4_result_27 KX x3 x4 x5 N um x6 → ∀ (H : Heap) (locs : List Loc) (ls : Array Slot), va_P (dC, dI) vwCl (w_md gm cA um) H → va_D A (w_md gm cA um) → va_S A s.heap H locs → lv_has ls 9 [(0, .ref (gm 0)), (3, .int x3), (4, .int x4), (5, .int x5), (6, .int x6)] → W p l e (headSpec wX4_result rm_X4_result).room s m args below meth c H locs 0 0 (MQ below (va_Qv (fun (u : (Nat → Nat → Int32)) => P u) (xB dC dI cA (fun u : (Nat → Nat → Int32) => w_md gm cA u) A) A) args s 0 0 A) (F0 m 27 ls []) := by
    intro KX x3 x4 x5 hx2 N27
    induction N27 with
    | zero =>
      intro um x6 hw
      exact False.elim hw
    | succ N27 hk =>
      intro um x6 hw H locs ls hP hD hS hl
      rw [wp_X4_result_27] at hw
      refine lv_iload hx hb dX4_result_27 (lv_at hl 4 rfl) ?_
      refine lv_iconst (v := 3) hx hb dX4_result_29 (by decide) ?_
      refine lv_icmp_ge (tgt := 132) hx hb dX4_result_30 (by decide) (fun c10 => ?_) (fun c10 => ?_)
      · replace hw := And.left hw c10
        exact hx2 _ hw _ _ _ hP hD hS (lv_sub hl [] rfl)
      · replace hw := And.right hw c10
        refine lv_aload_n hx hb dX4_result_33 rfl (lv_at hl 0 rfl) ?_
        refine va_get (D := (dC, dI)) (ci := 3) (v := .ref (gm 5)) (C := RX4) (T := TX4) (N := 23) hx hb hts iX4 hown hK hP 0 rfl rfl 10 (by decide) (hts _ (xm m538)) (fun _ h9 => h9) rfl dX4_result_34 ?_
        refine lv_iconst (v := 3) hx hb dX4_result_37 (by decide) ?_
        refine lv_iload_n hx hb dX4_result_38 rfl (lv_at hl 1 rfl) ?_
        refine lv_imul hx hb dX4_result_39 ?_
        refine lv_iload hx hb dX4_result_40 (lv_at hl 4 rfl) ?_
        refine lv_iadd hx hb dX4_result_42 ?_
        refine va_iald hx hb hK hP 5 0 rfl rfl (And.left hw) dX4_result_43 ?_
        replace hw := And.right hw
        refine lv_topi (fun v4 e_v4 => ?_)
        replace hw := hw v4 e_v4
        refine lv_istore (lv' := [(7, .int v4), (0, .ref (gm 0)), (3, .int x3), (4, .int x4), (5, .int x5), (6, .int x6)]) hx hb dX4_result_44 hl (by decide) rfl (fun ls hl => ?_)
        refine lv_iload hx hb dX4_result_46 (lv_at hl 3 rfl) ?_
        refine lv_if_le (tgt := 91) hx hb dX4_result_48 (by decide) (fun c9 => ?_) (fun c9 => ?_)
        · replace hw := And.left hw c9
          refine lv_iconst (v := 0) hx hb dX4_result_91 (by decide) ?_
          exact J92 _ _ _ _ _ _ _ hw hk _ _ _ hP hD hS (lv_sub hl [1, 2, 3, 4, 5] rfl)
        · replace hw := And.right hw c9
          refine lv_iload hx hb dX4_result_51 (lv_at hl 0 rfl) ?_
          refine lv_iload hx hb dX4_result_53 (lv_at hl 0 rfl) ?_
          refine lv_aload_n hx hb dX4_result_55 rfl (lv_at hl 1 rfl) ?_
          refine va_get (D := (dC, dI)) (ci := 3) (v := .ref (gm 3)) (C := RX4) (T := TX4) (N := 23) hx hb hts iX4 hown hK hP 0 rfl rfl 8 (by decide) (hts _ (xm m536)) (fun _ h9 => h9) rfl dX4_result_56 ?_
          refine lv_iconst (v := 3) hx hb dX4_result_59 (by decide) ?_
          refine lv_iload_n hx hb dX4_result_60 rfl (lv_at hl 2 rfl) ?_
          refine lv_imul hx hb dX4_result_61 ?_
          refine lv_iload hx hb dX4_result_62 (lv_at hl 5 rfl) ?_
          refine lv_iadd hx hb dX4_result_64 ?_
          refine va_iald hx hb hK hP 3 0 rfl rfl (And.left hw) dX4_result_65 ?_
          replace hw := And.right hw
          refine lv_isub hx hb dX4_result_66 ?_
          refine lv_iload hx hb dX4_result_67 (lv_at hl 4 rfl) ?_
          refine lv_sipush (v := 255) hx hb dX4_result_69 (by decide) ?_
          refine lv_imul hx hb dX4_result_72 ?_
          refine lv_iload hx hb dX4_result_73 (lv_at hl 4 rfl) ?_
          refine lv_iload hx hb dX4_result_75 (lv_at hl 3 rfl) ?_
          refine lv_imul hx hb dX4_result_77 ?_
          refine lv_isub hx hb dX4_result_78 ?_
          refine lv_imul hx hb dX4_result_79 ?_
          refine lv_sipush (v := 255) hx hb dX4_result_80 (by decide) ?_
          refine lv_iload hx hb dX4_result_83 (lv_at hl 3 rfl) ?_
          refine lv_imul hx hb dX4_result_85 ?_
          refine lv_idiv hx hb dX4_result_86 (And.left hw) ?_
          replace hw := And.right hw
          refine lv_iadd hx hb dX4_result_87 ?_
          refine lv_goto (tgt := 92) hx hb dX4_result_88 (by decide) ?_
          exact J92 _ _ _ _ _ _ _ hw hk _ _ _ hP hD hS (lv_sub hl [1, 2, 3, 4, 5] rfl)
  have hl := lv_entry ([.ref (gm 0), .int p0, .int p1]) (n := 9) (Nat.le_of_ble_eq_true rfl)
  rw [show entryFrame m args 9 = entryFrame m (([.ref (gm 0), .int p0, .int p1] : List Value).toArray) 9 from by rw [hargs], lg_entry_eq]
  generalize (lg_sl ([.ref (gm 0), .int p0, .int p1]) ++ List.replicate (9 - (lg_sl ([.ref (gm 0), .int p0, .int p1])).length) Slot.unset).toArray = ls at hl ⊢
  have hl : lv_has ls 9 [(0, .ref (gm 0)), (1, .int p0), (2, .int p1)] := hl
  have hP : va_P (dC, dI) vwCl (w_md gm cA um) s.heap := hP
  refine lv_sipush (v := 144) hx hb dX4_result_0 (by decide) ?_
  refine lv_iload_n hx hb dX4_result_3 rfl (lv_at hl 1 rfl) ?_
  refine lv_imul hx hb dX4_result_4 ?_
  refine lv_iload_n hx hb dX4_result_5 rfl (lv_at hl 2 rfl) ?_
  refine lv_iadd hx hb dX4_result_6 ?_
  refine lv_topi (fun v1 e_v1 => ?_)
  replace hw := hw v1 e_v1
  refine lv_istore_n (lv' := [(3, .int v1), (0, .ref (gm 0)), (1, .int p0), (2, .int p1)]) hx hb dX4_result_7 rfl hl (by decide) rfl (fun ls hl => ?_)
  refine lv_aload_n hx hb dX4_result_8 rfl (lv_at hl 1 rfl) ?_
  refine va_get (D := (dC, dI)) (ci := 3) (v := .ref (gm 6)) (C := RX4) (T := TX4) (N := 23) hx hb hts iX4 hown hK hP 0 rfl rfl 11 (by decide) (hts _ (xm m539)) (fun _ h9 => h9) rfl dX4_result_9 ?_
  refine lv_iload_n hx hb dX4_result_12 rfl (lv_at hl 0 rfl) ?_
  refine va_iald hx hb hK hP 6 0 rfl rfl (And.left hw) dX4_result_13 ?_
  replace hw := And.right hw
  refine lv_topi (fun v2 e_v2 => ?_)
  replace hw := hw v2 e_v2
  refine lv_istore (lv' := [(4, .int v2), (3, .int v1), (0, .ref (gm 0)), (1, .int p0), (2, .int p1)]) hx hb dX4_result_14 hl (by decide) rfl (fun ls hl => ?_)
  refine lv_aload_n hx hb dX4_result_16 rfl (lv_at hl 2 rfl) ?_
  refine va_get (D := (dC, dI)) (ci := 3) (v := .ref (gm 4)) (C := RX4) (T := TX4) (N := 23) hx hb hts iX4 hown hK hP 0 rfl rfl 9 (by decide) (hts _ (xm m537)) (fun _ h9 => h9) rfl dX4_result_17 ?_
  refine lv_iload_n hx hb dX4_result_20 rfl (lv_at hl 1 rfl) ?_
  refine va_iald hx hb hK hP 4 0 rfl rfl (And.left hw) dX4_result_21 ?_
  replace hw := And.right hw
  refine lv_topi (fun v3 e_v3 => ?_)
  replace hw := hw v3 e_v3
  refine lv_istore (lv' := [(5, .int v3), (4, .int v2), (3, .int v1), (0, .ref (gm 0)), (1, .int p0), (2, .int p1)]) hx hb dX4_result_22 hl (by decide) rfl (fun ls hl => ?_)
  refine lv_iconst (v := 0) hx hb dX4_result_24 (by decide) ?_
  refine lv_istore (lv' := [(6, .int 0), (5, .int v3), (4, .int v2), (3, .int v1), (0, .ref (gm 0)), (1, .int p0), (2, .int p1)]) hx hb dX4_result_25 hl (by decide) rfl (fun ls hl => ?_)
  obtain ⟨N27, hw⟩ := hw
  refine L27 _ _ _ _ (fun um11 hw H locs ls hP hD hS hl => ?_) N27 _ _ hw _ _ _ hP hD hS (lv_sub hl [4, 3, 2, 1, 0] rfl)
  exact W.vret hx hb hr (fun t ht hW => ⟨⟨um11, rfl, hw, by rw [ht]; exact hP, va_K.moved hW.alike hK, hD⟩, hS.F ht⟩) hS.2.2 dX4_result_132
