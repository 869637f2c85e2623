theorem m675 : Cond.methodLink RX4 94 yX4_greatest ∈ gG := gG_mk (i := 675) (by decide +kernel) (by decide +kernel)
theorem m676 : Cond.static yX4_greatest ∈ gG := gG_mk (i := 676) (by decide +kernel) (by decide +kernel)
theorem m677 : Cond.code yX4_greatest cX4_greatest 2 (some .int) ∈ gG := gG_mk (i := 677) (by decide +kernel) (by decide +kernel)
theorem m678 : Cond.methodLink RX4 98 yX4_least ∈ gG := gG_mk (i := 678) (by decide +kernel) (by decide +kernel)
theorem m679 : Cond.static yX4_least ∈ gG := gG_mk (i := 679) (by decide +kernel) (by decide +kernel)
theorem m680 : Cond.code yX4_least cX4_least 2 (some .int) ∈ gG := gG_mk (i := 680) (by decide +kernel) (by decide +kernel)
theorem m688 : Cond.methodLink RX4 91 yX4_down ∈ gG := gG_mk (i := 688) (by decide +kernel) (by decide +kernel)
theorem m689 : Cond.static yX4_down ∈ gG := gG_mk (i := 689) (by decide +kernel) (by decide +kernel)
theorem m690 : Cond.code yX4_down cX4_down 3 (some .int) ∈ gG := gG_mk (i := 690) (by decide +kernel) (by decide +kernel)
abbrev wX4_lum : List Cond := Cond.code yX4_lum cX4_lum 1 (some .int) :: gG
def wp_X4_lum (uz : Nat → Int32) (P : Int32 → Prop) : Prop :=
  wp_X4_down (((30 * (uz 0)) + (59 * (uz 1))) + (11 * (uz 2))) 100 (fun r1 => P r1)
abbrev rm_X4_lum : Room := { frames := 1, cells := 0, slots := 0, locals := 22 }
set_option maxHeartbeats 4000000 in
set_option maxRecDepth 100000 in
theorem c_X4_lum (l : Launch) (dC : Nat → ClassId) (dI : Nat → Nat → Nat) (cA : Nat → ClassId) (gz : Nat) (uz : Nat → Int32) (P : Int32 → Prop) (hw : wp_X4_lum uz P) : Met l yX4_lum wX4_lum rm_X4_lum (xP1 dC dI cA (w_a3 gz cA uz) [.ref gz]) (vp_Si P) 0 0 (fun _ => False) := by
  refine Met.ofW (cc := cX4_lum) (maxL := 1) (ret := (some .int)) (by decide) rfl ?_
  intro p e s m args below meth c s₁ B hml hv
  obtain ⟨hargs, hP, hK⟩ := hv
  have hx := B.exec
  have hb := B.bytes
  have hr := B.returns
  have hts := atoms_spec (ws := wX4_lum) B.pre
  have hown : s.vm.findClass RX4 = some m.cls := findClass_of_methodNamed B.named
  have hlocks := B.notSynchronized
  have hl := lv_entry ([.ref gz]) (n := 1) (Nat.le_of_ble_eq_true rfl)
  rw [show entryFrame m args 1 = entryFrame m (([.ref gz] : List Value).toArray) 1 from by rw [hargs], lg_entry_eq]
  generalize (lg_sl ([.ref gz]) ++ List.replicate (1 - (lg_sl ([.ref gz])).length) Slot.unset).toArray = ls at hl ⊢
  have hl : lv_has ls 1 [(0, .ref gz)] := hl
  refine lv_bipush (v := 30) hx hb dX4_lum_0 (by decide) ?_
  refine lv_aload_n hx hb dX4_lum_2 rfl (lv_at hl 0 rfl) ?_
  refine lv_iconst (v := 0) hx hb dX4_lum_3 (by decide) ?_
  refine va_iald hx hb hK hP 0 0 rfl rfl (xin (by decide)) dX4_lum_4 ?_
  refine xtop (y := uz 0) rfl ?_
  refine lv_imul hx hb dX4_lum_5 ?_
  refine lv_bipush (v := 59) hx hb dX4_lum_6 (by decide) ?_
  refine lv_aload_n hx hb dX4_lum_8 rfl (lv_at hl 0 rfl) ?_
  refine lv_iconst (v := 1) hx hb dX4_lum_9 (by decide) ?_
  refine va_iald hx hb hK hP 0 0 rfl rfl (xin (by decide)) dX4_lum_10 ?_
  refine xtop (y := uz 1) rfl ?_
  refine lv_imul hx hb dX4_lum_11 ?_
  refine lv_iadd hx hb dX4_lum_12 ?_
  refine lv_bipush (v := 11) hx hb dX4_lum_13 (by decide) ?_
  refine lv_aload_n hx hb dX4_lum_15 rfl (lv_at hl 0 rfl) ?_
  refine lv_iconst (v := 2) hx hb dX4_lum_16 (by decide) ?_
  refine va_iald hx hb hK hP 0 0 rfl rfl (xin (by decide)) dX4_lum_17 ?_
  refine xtop (y := uz 2) rfl ?_
  refine lv_imul hx hb dX4_lum_18 ?_
  refine lv_iadd hx hb dX4_lum_19 ?_
  refine lv_bipush (v := 100) hx hb dX4_lum_20 (by decide) ?_
  refine vp_callSi (va_Run.run (va_runS (As := [.int (((30 * (uz 0)) + (59 * (uz 1))) + (11 * (uz 2))), .int 100]) (rest := []) ⟨hx, hb, hml, hown, hts⟩ (c_X4_down l (((30 * (uz 0)) + (59 * (uz 1))) + (11 * (uz 2))) 100 _ hw) (gcS 2 hts m690 m688 m689 m24 rfl rfl (by decide +kernel) ⟨Nat.le_of_ble_eq_true rfl, Nat.le_of_ble_eq_true rfl⟩) ⟨xbl0, fun U hU hW => ⟨rfl, trivial⟩⟩ rfl rfl hl.1 rfl (lv_room (Nat.le_of_ble_eq_true rfl)) dX4_lum_22 ⟨Nat.le_of_ble_eq_true rfl, Nat.le_of_ble_eq_true rfl⟩)) (fun r1 hw => ?_)
  exact W.iret hx hb hr (fun t ht hW => ⟨_, rfl, hw, ht⟩) (fun q h => by cases h) dX4_lum_25
abbrev wX4_least : List Cond := Cond.code yX4_least cX4_least 2 (some .int) :: gG
def wp_X4_least_18 (uz : Nat → Int32) (P : Int32 → Prop) (s0 : Int32) : Prop :=
  (((uz 2) ≤ s0 → P (uz 2)) ∧
  (¬ (uz 2) ≤ s0 → P s0))
def wp_X4_least (uz : Nat → Int32) (P : Int32 → Prop) : Prop :=
  (((uz 1) ≤ (uz 0) → wp_X4_least_18 uz P (uz 1)) ∧
  (¬ (uz 1) ≤ (uz 0) → wp_X4_least_18 uz P (uz 0)))
abbrev rm_X4_least : Room := { frames := 0, cells := 0, slots := 0, locals := 0 }
set_option maxHeartbeats 4000000 in
set_option maxRecDepth 100000 in
theorem c_X4_least (l : Launch) (dC : Nat → ClassId) (dI : Nat → Nat → Nat) (cA : Nat → ClassId) (gz : Nat) (uz : Nat → Int32) (P : Int32 → Prop) (hw : wp_X4_least uz P) : Met l yX4_least wX4_least rm_X4_least (xP1 dC dI cA (w_a3 gz cA uz) [.ref gz]) (vp_Si P) 0 0 (fun _ => False) := by
  refine Met.ofW (cc := cX4_least) (maxL := 2) (ret := (some .int)) (by decide) rfl ?_
  intro p e s m args below meth c s₁ B hml hv
  obtain ⟨hargs, hP, hK⟩ := hv
  have hx := B.exec
  have hb := B.bytes
  have hr := B.returns
  have hts := atoms_spec (ws := wX4_least) B.pre
  have hown : s.vm.findClass RX4 = some m.cls := findClass_of_methodNamed B.named
  have hlocks := B.notSynchronized
  have J18 : ∀ (s0 : Int32), wp_X4_least_18 uz P s0 → ∀ (ls : Array Slot), lv_has ls 2 [(0, .ref gz)] → W p l e (headSpec wX4_least rm_X4_least).room s m args below meth c s.heap [] 0 0 (MQ below (vp_Si P) args s 0 0 (fun _ => False)) (F0 m 18 ls [.int s0]) := by
    intro  s0 hw ls hl
    refine lv_istore_n (lv' := [(1, .int s0), (0, .ref gz)]) hx hb dX4_least_18 rfl hl (by decide) rfl (fun ls hl => ?_)
    refine lv_iload_n hx hb dX4_least_19 rfl (lv_at hl 0 rfl) ?_
    refine lv_aload_n hx hb dX4_least_20 rfl (lv_at hl 1 rfl) ?_
    refine lv_iconst (v := 2) hx hb dX4_least_21 (by decide) ?_
    refine va_iald hx hb hK hP 0 0 rfl rfl (xin (by decide)) dX4_least_22 ?_
    refine xtop (y := uz 2) rfl ?_
    refine lv_icmp_ge (tgt := 30) hx hb dX4_least_23 (by decide) (fun c1 => ?_) (fun c1 => ?_)
    · replace hw := And.left hw c1
      refine lv_aload_n hx hb dX4_least_30 rfl (lv_at hl 1 rfl) ?_
      refine lv_iconst (v := 2) hx hb dX4_least_31 (by decide) ?_
      refine va_iald hx hb hK hP 0 0 rfl rfl (xin (by decide)) dX4_least_32 ?_
      refine xtop (y := uz 2) rfl ?_
      exact W.iret hx hb hr (fun t ht hW => ⟨_, rfl, hw, ht⟩) (fun q h => by cases h) dX4_least_33
    · replace hw := And.right hw c1
      refine lv_iload_n hx hb dX4_least_26 rfl (lv_at hl 0 rfl) ?_
      refine lv_goto (tgt := 33) hx hb dX4_least_27 (by decide) ?_
      exact W.iret hx hb hr (fun t ht hW => ⟨_, rfl, hw, ht⟩) (fun q h => by cases h) dX4_least_33
  have hl := lv_entry ([.ref gz]) (n := 2) (Nat.le_of_ble_eq_true rfl)
  rw [show entryFrame m args 2 = entryFrame m (([.ref gz] : List Value).toArray) 2 from by rw [hargs], lg_entry_eq]
  generalize (lg_sl ([.ref gz]) ++ List.replicate (2 - (lg_sl ([.ref gz])).length) Slot.unset).toArray = ls at hl ⊢
  have hl : lv_has ls 2 [(0, .ref gz)] := hl
  refine lv_aload_n hx hb dX4_least_0 rfl (lv_at hl 0 rfl) ?_
  refine lv_iconst (v := 0) hx hb dX4_least_1 (by decide) ?_
  refine va_iald hx hb hK hP 0 0 rfl rfl (xin (by decide)) dX4_least_2 ?_
  refine xtop (y := uz 0) rfl ?_
  refine lv_aload_n hx hb dX4_least_3 rfl (lv_at hl 0 rfl) ?_
  refine lv_iconst (v := 1) hx hb dX4_least_4 (by decide) ?_
  refine va_iald hx hb hK hP 0 0 rfl rfl (xin (by decide)) dX4_least_5 ?_
  refine xtop (y := uz 1) rfl ?_
  refine lv_icmp_ge (tgt := 15) hx hb dX4_least_6 (by decide) (fun c2 => ?_) (fun c2 => ?_)
  · replace hw := And.left hw c2
    refine lv_aload_n hx hb dX4_least_15 rfl (lv_at hl 0 rfl) ?_
    refine lv_iconst (v := 1) hx hb dX4_least_16 (by decide) ?_
    refine va_iald hx hb hK hP 0 0 rfl rfl (xin (by decide)) dX4_least_17 ?_
    refine xtop (y := uz 1) rfl ?_
    exact J18 _ hw _ (lv_sub hl [0] rfl)
  · replace hw := And.right hw c2
    refine lv_aload_n hx hb dX4_least_9 rfl (lv_at hl 0 rfl) ?_
    refine lv_iconst (v := 0) hx hb dX4_least_10 (by decide) ?_
    refine va_iald hx hb hK hP 0 0 rfl rfl (xin (by decide)) dX4_least_11 ?_
    refine xtop (y := uz 0) rfl ?_
    refine lv_goto (tgt := 18) hx hb dX4_least_12 (by decide) ?_
    exact J18 _ hw _ (lv_sub hl [0] rfl)
abbrev wX4_greatest : List Cond := Cond.code yX4_greatest cX4_greatest 2 (some .int) :: gG
def wp_X4_greatest_18 (uz : Nat → Int32) (P : Int32 → Prop) (s0 : Int32) : Prop :=
  ((s0 ≤ (uz 2) → P (uz 2)) ∧
  (¬ s0 ≤ (uz 2) → P s0))
def wp_X4_greatest (uz : Nat → Int32) (P : Int32 → Prop) : Prop :=
  (((uz 0) ≤ (uz 1) → wp_X4_greatest_18 uz P (uz 1)) ∧
  (¬ (uz 0) ≤ (uz 1) → wp_X4_greatest_18 uz P (uz 0)))
abbrev rm_X4_greatest : Room := { frames := 0, cells := 0, slots := 0, locals := 0 }
set_option maxHeartbeats 4000000 in
set_option maxRecDepth 100000 in
theorem c_X4_greatest (l : Launch) (dC : Nat → ClassId) (dI : Nat → Nat → Nat) (cA : Nat → ClassId) (gz : Nat) (uz : Nat → Int32) (P : Int32 → Prop) (hw : wp_X4_greatest uz P) : Met l yX4_greatest wX4_greatest rm_X4_greatest (xP1 dC dI cA (w_a3 gz cA uz) [.ref gz]) (vp_Si P) 0 0 (fun _ => False) := by
  refine Met.ofW (cc := cX4_greatest) (maxL := 2) (ret := (some .int)) (by decide) rfl ?_
  intro p e s m args below meth c s₁ B hml hv
  obtain ⟨hargs, hP, hK⟩ := hv
  have hx := B.exec
  have hb := B.bytes
  have hr := B.returns
  have hts := atoms_spec (ws := wX4_greatest) B.pre
  have hown : s.vm.findClass RX4 = some m.cls := findClass_of_methodNamed B.named
  have hlocks := B.notSynchronized
  have J18 : ∀ (s0 : Int32), wp_X4_greatest_18 uz P s0 → ∀ (ls : Array Slot), lv_has ls 2 [(0, .ref gz)] → W p l e (headSpec wX4_greatest rm_X4_greatest).room s m args below meth c s.heap [] 0 0 (MQ below (vp_Si P) args s 0 0 (fun _ => False)) (F0 m 18 ls [.int s0]) := by
    intro  s0 hw ls hl
    refine lv_istore_n (lv' := [(1, .int s0), (0, .ref gz)]) hx hb dX4_greatest_18 rfl hl (by decide) rfl (fun ls hl => ?_)
    refine lv_iload_n hx hb dX4_greatest_19 rfl (lv_at hl 0 rfl) ?_
    refine lv_aload_n hx hb dX4_greatest_20 rfl (lv_at hl 1 rfl) ?_
    refine lv_iconst (v := 2) hx hb dX4_greatest_21 (by decide) ?_
    refine va_iald hx hb hK hP 0 0 rfl rfl (xin (by decide)) dX4_greatest_22 ?_
    refine xtop (y := uz 2) rfl ?_
    refine lv_icmp_le (tgt := 30) hx hb dX4_greatest_23 (by decide) (fun c1 => ?_) (fun c1 => ?_)
    · replace hw := And.left hw c1
      refine lv_aload_n hx hb dX4_greatest_30 rfl (lv_at hl 1 rfl) ?_
      refine lv_iconst (v := 2) hx hb dX4_greatest_31 (by decide) ?_
      refine va_iald hx hb hK hP 0 0 rfl rfl (xin (by decide)) dX4_greatest_32 ?_
      refine xtop (y := uz 2) rfl ?_
      exact W.iret hx hb hr (fun t ht hW => ⟨_, rfl, hw, ht⟩) (fun q h => by cases h) dX4_greatest_33
    · replace hw := And.right hw c1
      refine lv_iload_n hx hb dX4_greatest_26 rfl (lv_at hl 0 rfl) ?_
      refine lv_goto (tgt := 33) hx hb dX4_greatest_27 (by decide) ?_
      exact W.iret hx hb hr (fun t ht hW => ⟨_, rfl, hw, ht⟩) (fun q h => by cases h) dX4_greatest_33
  have hl := lv_entry ([.ref gz]) (n := 2) (Nat.le_of_ble_eq_true rfl)
  rw [show entryFrame m args 2 = entryFrame m (([.ref gz] : List Value).toArray) 2 from by rw [hargs], lg_entry_eq]
  generalize (lg_sl ([.ref gz]) ++ List.replicate (2 - (lg_sl ([.ref gz])).length) Slot.unset).toArray = ls at hl ⊢
  have hl : lv_has ls 2 [(0, .ref gz)] := hl
  refine lv_aload_n hx hb dX4_greatest_0 rfl (lv_at hl 0 rfl) ?_
  refine lv_iconst (v := 0) hx hb dX4_greatest_1 (by decide) ?_
  refine va_iald hx hb hK hP 0 0 rfl rfl (xin (by decide)) dX4_greatest_2 ?_
  refine xtop (y := uz 0) rfl ?_
  refine lv_aload_n hx hb dX4_greatest_3 rfl (lv_at hl 0 rfl) ?_
  refine lv_iconst (v := 1) hx hb dX4_greatest_4 (by decide) ?_
  refine va_iald hx hb hK hP 0 0 rfl rfl (xin (by decide)) dX4_greatest_5 ?_
  refine xtop (y := uz 1) rfl ?_
  refine lv_icmp_le (tgt := 15) hx hb dX4_greatest_6 (by decide) (fun c2 => ?_) (fun c2 => ?_)
  · replace hw := And.left hw c2
    refine lv_aload_n hx hb dX4_greatest_15 rfl (lv_at hl 0 rfl) ?_
    refine lv_iconst (v := 1) hx hb dX4_greatest_16 (by decide) ?_
    refine va_iald hx hb hK hP 0 0 rfl rfl (xin (by decide)) dX4_greatest_17 ?_
    refine xtop (y := uz 1) rfl ?_
    exact J18 _ hw _ (lv_sub hl [0] rfl)
  · replace hw := And.right hw c2
    refine lv_aload_n hx hb dX4_greatest_9 rfl (lv_at hl 0 rfl) ?_
    refine lv_iconst (v := 0) hx hb dX4_greatest_10 (by decide) ?_
    refine va_iald hx hb hK hP 0 0 rfl rfl (xin (by decide)) dX4_greatest_11 ?_
    refine xtop (y := uz 0) rfl ?_
    refine lv_goto (tgt := 18) hx hb dX4_greatest_12 (by decide) ?_
    exact J18 _ hw _ (lv_sub hl [0] rfl)
abbrev wX4_sat : List Cond := Cond.code yX4_sat cX4_sat 1 (some .int) :: gG
def wp_X4_sat (uz : Nat → Int32) (P : Int32 → Prop) : Prop :=
  wp_X4_greatest uz (fun r1 => wp_X4_least uz (fun r2 => P (r1 - r2)))
abbrev rm_X4_sat : Room := { frames := 1, cells := 0, slots := 0, locals := 21 }
set_option maxHeartbeats 4000000 in
set_option maxRecDepth 100000 in
theorem c_X4_sat (l : Launch) (dC : Nat → ClassId) (dI : Nat → Nat → Nat) (cA : Nat → ClassId) (gz : Nat) (uz : Nat → Int32) (P : Int32 → Prop) (hw : wp_X4_sat uz P) : Met l yX4_sat wX4_sat rm_X4_sat (xP1 dC dI cA (w_a3 gz cA uz) [.ref gz]) (vp_Si P) 0 0 (fun _ => False) := by
  refine Met.ofW (cc := cX4_sat) (maxL := 1) (ret := (some .int)) (by decide) rfl ?_
  intro p e s m args below meth c s₁ B hml hv
  obtain ⟨hargs, hP, hK⟩ := hv
  have hx := B.exec
  have hb := B.bytes
  have hr := B.returns
  have hts := atoms_spec (ws := wX4_sat) B.pre
  have hown : s.vm.findClass RX4 = some m.cls := findClass_of_methodNamed B.named
  have hlocks := B.notSynchronized
  have hl := lv_entry ([.ref gz]) (n := 1) (Nat.le_of_ble_eq_true rfl)
  rw [show entryFrame m args 1 = entryFrame m (([.ref gz] : List Value).toArray) 1 from by rw [hargs], lg_entry_eq]
  generalize (lg_sl ([.ref gz]) ++ List.replicate (1 - (lg_sl ([.ref gz])).length) Slot.unset).toArray = ls at hl ⊢
  have hl : lv_has ls 1 [(0, .ref gz)] := hl
  refine lv_aload_n hx hb dX4_sat_0 rfl (lv_at hl 0 rfl) ?_
  have hPc : va_P (dC, dI) vwCl (w_a3 gz cA uz) _ := hP
  refine vp_callSi (va_Run.run (va_runS (As := [.ref gz]) (rest := []) ⟨hx, hb, hml, hown, hts⟩ (c_X4_greatest l dC dI cA gz uz _ hw) (gcS 1 hts m677 m675 m676 m24 rfl rfl (by decide +kernel) ⟨Nat.le_of_ble_eq_true rfl, Nat.le_of_ble_eq_true rfl⟩) ⟨xbl1, fun U hU hW => ⟨rfl, by rw [hU]; exact hPc, va_K.moved hW.alike hK⟩⟩ rfl rfl hl.1 rfl (lv_room (Nat.le_of_ble_eq_true rfl)) dX4_sat_1 ⟨Nat.le_of_ble_eq_true rfl, Nat.le_of_ble_eq_true rfl⟩)) (fun r1 hw => ?_)
  refine lv_aload_n hx hb dX4_sat_4 rfl (lv_at hl 0 rfl) ?_
  have hPc : va_P (dC, dI) vwCl (w_a3 gz cA uz) _ := hP
  refine vp_callSi (va_Run.run (va_runS (As := [.ref gz]) (rest := [.int r1]) ⟨hx, hb, hml, hown, hts⟩ (c_X4_least l dC dI cA gz uz _ hw) (gcS 1 hts m680 m678 m679 m24 rfl rfl (by decide +kernel) ⟨Nat.le_of_ble_eq_true rfl, Nat.le_of_ble_eq_true rfl⟩) ⟨xbl1, fun U hU hW => ⟨rfl, by rw [hU]; exact hPc, va_K.moved hW.alike hK⟩⟩ rfl rfl hl.1 rfl (lv_room (Nat.le_of_ble_eq_true rfl)) dX4_sat_5 ⟨Nat.le_of_ble_eq_true rfl, Nat.le_of_ble_eq_true rfl⟩)) (fun r2 hw => ?_)
  refine lv_isub hx hb dX4_sat_8 ?_
  exact W.iret hx hb hr (fun t ht hW => ⟨_, rfl, hw, ht⟩) (fun q h => by cases h) dX4_sat_9
