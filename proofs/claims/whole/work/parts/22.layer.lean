theorem m5 : Cond.selects RX0 yX0_resultBand yX0_resultBand ∈ gG := gG_mk (i := 5) (by decide +kernel) (by decide +kernel)
theorem m23 : Cond.initialized yX0_resultBand.cls ∈ gG := gG_mk (i := 23) (by decide +kernel) (by decide +kernel)
theorem m57 : Cond.fieldLink RX0 15 "BlendRows$Layer" "backColours" "[I" ∈ gG := gG_mk (i := 57) (by decide +kernel) (by decide +kernel)
theorem m58 : Cond.fieldLink RX0 19 "BlendRows$Layer" "backAlphas" "[I" ∈ gG := gG_mk (i := 58) (by decide +kernel) (by decide +kernel)
theorem m59 : Cond.fieldLink RX0 22 "BlendRows$Layer" "colours" "[I" ∈ gG := gG_mk (i := 59) (by decide +kernel) (by decide +kernel)
theorem m60 : Cond.fieldLink RX0 25 "BlendRows$Layer" "ownAlphas" "[I" ∈ gG := gG_mk (i := 60) (by decide +kernel) (by decide +kernel)
theorem m61 : Cond.fieldLink RX0 28 "BlendRows$Layer" "shapes" "[I" ∈ gG := gG_mk (i := 61) (by decide +kernel) (by decide +kernel)
theorem m255 : Cond.methodLink RX0 42 yX2_union ∈ gG := gG_mk (i := 255) (by decide +kernel) (by decide +kernel)
theorem m311 : Cond.instanceMethod yX0_result ∈ gG := gG_mk (i := 311) (by decide +kernel) (by decide +kernel)
theorem m312 : Cond.selects RX0 yX0_result yX0_result ∈ gG := gG_mk (i := 312) (by decide +kernel) (by decide +kernel)
theorem m313 : Cond.code yX0_result cX0_result 2 (some .int) ∈ gG := gG_mk (i := 313) (by decide +kernel) (by decide +kernel)
theorem m314 : Cond.methodLink RX0 60 yX0_resultBand ∈ gG := gG_mk (i := 314) (by decide +kernel) (by decide +kernel)
theorem m316 : Cond.instanceMethod yX0_resultBand ∈ gG := gG_mk (i := 316) (by decide +kernel) (by decide +kernel)
theorem m317 : Cond.code yX0_resultBand cX0_resultBand 6 (some .int) ∈ gG := gG_mk (i := 317) (by decide +kernel) (by decide +kernel)
theorem m318 : Cond.methodLink RX0 54 yX2_bandOf ∈ gG := gG_mk (i := 318) (by decide +kernel) (by decide +kernel)
theorem m321 : Cond.methodLink RX0 66 yX2_within ∈ gG := gG_mk (i := 321) (by decide +kernel) (by decide +kernel)
theorem m326 : Cond.methodLink RX0 63 yX2_packed ∈ gG := gG_mk (i := 326) (by decide +kernel) (by decide +kernel)
theorem m408 : Cond.methodLink RX0 69 yX0_result ∈ gG := gG_mk (i := 408) (by decide +kernel) (by decide +kernel)
theorem m409 : Cond.methodLink RX0 72 yX2_mul ∈ gG := gG_mk (i := 409) (by decide +kernel) (by decide +kernel)
theorem m410 : Cond.methodLink RX0 75 yX2_lum ∈ gG := gG_mk (i := 410) (by decide +kernel) (by decide +kernel)
abbrev wX0_colourAt : List Cond := Cond.code yX0_colourAt cX0_colourAt 2 (some .int) :: gG
def wp_X0_colourAt (n : Nat) (ub : Nat → Nat → Int32) (p0 : Int32) (P : Int32 → Prop) : Prop :=
  (vp_in p0 n ∧ P (ub 3 p0.toNatClampNeg))
abbrev rm_X0_colourAt : Room := { frames := 0, cells := 0, slots := 0, locals := 0 }
set_option maxHeartbeats 4000000 in
set_option maxRecDepth 100000 in
theorem c_X0_colourAt (l : Launch) (dC : Nat → ClassId) (dI : Nat → Nat → Nat) (cA : Nat → ClassId) (g : Nat → Nat) (n : Nat) (ub : Nat → Nat → Int32) (p0 : Int32) (P : Int32 → Prop) (hw : wp_X0_colourAt n ub p0 P) : Met l yX0_colourAt wX0_colourAt rm_X0_colourAt (xP1 dC dI cA (w_ly g cA n ub) [.ref (g 0), .int p0]) (vp_Si P) 0 0 (fun _ => False) := by
  refine Met.ofW (cc := cX0_colourAt) (maxL := 2) (ret := (some .int)) (by decide) rfl ?_
  intro p e s m args below meth c s₁ B hml hv
  obtain ⟨hargs, hP, hK⟩ := hv
  have hx := B.exec
  have hb := B.bytes
  have hr := B.returns
  have hts := atoms_spec (ws := wX0_colourAt) B.pre
  have hown : s.vm.findClass RX0 = some m.cls := findClass_of_methodNamed B.named
  have hlocks := B.notSynchronized
  have hl := lv_entry ([.ref (g 0), .int p0]) (n := 2) (Nat.le_of_ble_eq_true rfl)
  rw [show entryFrame m args 2 = entryFrame m (([.ref (g 0), .int p0] : List Value).toArray) 2 from by rw [hargs], lg_entry_eq]
  generalize (lg_sl ([.ref (g 0), .int p0]) ++ List.replicate (2 - (lg_sl ([.ref (g 0), .int p0])).length) Slot.unset).toArray = ls at hl ⊢
  have hl : lv_has ls 2 [(0, .ref (g 0)), (1, .int p0)] := hl
  refine lv_aload_n hx hb dX0_colourAt_0 rfl (lv_at hl 0 rfl) ?_
  refine va_get (D := (dC, dI)) (ci := 1) (v := .ref (g 3)) (C := RX0) (T := TX0) (N := 7) hx hb hts iX0 hown hK hP 0 rfl rfl 3 (by decide) (hts _ (xm m59)) (fun _ h9 => h9) rfl dX0_colourAt_1 ?_
  refine lv_iload_n hx hb dX0_colourAt_4 rfl (lv_at hl 1 rfl) ?_
  refine va_iald hx hb hK hP 3 0 rfl rfl (And.left hw) dX0_colourAt_5 ?_
  replace hw := And.right hw
  exact W.iret hx hb hr (fun t ht hW => ⟨_, rfl, hw, ht⟩) (fun q h => by cases h) dX0_colourAt_6
abbrev wX0_ownAlpha : List Cond := Cond.code yX0_ownAlpha cX0_ownAlpha 2 (some .int) :: gG
def wp_X0_ownAlpha (n : Nat) (ub : Nat → Nat → Int32) (p0 : Int32) (P : Int32 → Prop) : Prop :=
  (vp_in p0 n ∧ P (ub 4 p0.toNatClampNeg))
abbrev rm_X0_ownAlpha : Room := { frames := 0, cells := 0, slots := 0, locals := 0 }
set_option maxHeartbeats 4000000 in
set_option maxRecDepth 100000 in
theorem c_X0_ownAlpha (l : Launch) (dC : Nat → ClassId) (dI : Nat → Nat → Nat) (cA : Nat → ClassId) (g : Nat → Nat) (n : Nat) (ub : Nat → Nat → Int32) (p0 : Int32) (P : Int32 → Prop) (hw : wp_X0_ownAlpha n ub p0 P) : Met l yX0_ownAlpha wX0_ownAlpha rm_X0_ownAlpha (xP1 dC dI cA (w_ly g cA n ub) [.ref (g 0), .int p0]) (vp_Si P) 0 0 (fun _ => False) := by
  refine Met.ofW (cc := cX0_ownAlpha) (maxL := 2) (ret := (some .int)) (by decide) rfl ?_
  intro p e s m args below meth c s₁ B hml hv
  obtain ⟨hargs, hP, hK⟩ := hv
  have hx := B.exec
  have hb := B.bytes
  have hr := B.returns
  have hts := atoms_spec (ws := wX0_ownAlpha) B.pre
  have hown : s.vm.findClass RX0 = some m.cls := findClass_of_methodNamed B.named
  have hlocks := B.notSynchronized
  have hl := lv_entry ([.ref (g 0), .int p0]) (n := 2) (Nat.le_of_ble_eq_true rfl)
  rw [show entryFrame m args 2 = entryFrame m (([.ref (g 0), .int p0] : List Value).toArray) 2 from by rw [hargs], lg_entry_eq]
  generalize (lg_sl ([.ref (g 0), .int p0]) ++ List.replicate (2 - (lg_sl ([.ref (g 0), .int p0])).length) Slot.unset).toArray = ls at hl ⊢
  have hl : lv_has ls 2 [(0, .ref (g 0)), (1, .int p0)] := hl
  refine lv_aload_n hx hb dX0_ownAlpha_0 rfl (lv_at hl 0 rfl) ?_
  refine va_get (D := (dC, dI)) (ci := 1) (v := .ref (g 4)) (C := RX0) (T := TX0) (N := 7) hx hb hts iX0 hown hK hP 0 rfl rfl 4 (by decide) (hts _ (xm m60)) (fun _ h9 => h9) rfl dX0_ownAlpha_1 ?_
  refine lv_iload_n hx hb dX0_ownAlpha_4 rfl (lv_at hl 1 rfl) ?_
  refine va_iald hx hb hK hP 4 0 rfl rfl (And.left hw) dX0_ownAlpha_5 ?_
  replace hw := And.right hw
  exact W.iret hx hb hr (fun t ht hW => ⟨_, rfl, hw, ht⟩) (fun q h => by cases h) dX0_ownAlpha_6
abbrev wX0_shapeAt : List Cond := Cond.code yX0_shapeAt cX0_shapeAt 2 (some .int) :: gG
def wp_X0_shapeAt (n : Nat) (ub : Nat → Nat → Int32) (p0 : Int32) (P : Int32 → Prop) : Prop :=
  (vp_in p0 n ∧ P (ub 5 p0.toNatClampNeg))
abbrev rm_X0_shapeAt : Room := { frames := 0, cells := 0, slots := 0, locals := 0 }
set_option maxHeartbeats 4000000 in
set_option maxRecDepth 100000 in
theorem c_X0_shapeAt (l : Launch) (dC : Nat → ClassId) (dI : Nat → Nat → Nat) (cA : Nat → ClassId) (g : Nat → Nat) (n : Nat) (ub : Nat → Nat → Int32) (p0 : Int32) (P : Int32 → Prop) (hw : wp_X0_shapeAt n ub p0 P) : Met l yX0_shapeAt wX0_shapeAt rm_X0_shapeAt (xP1 dC dI cA (w_ly g cA n ub) [.ref (g 0), .int p0]) (vp_Si P) 0 0 (fun _ => False) := by
  refine Met.ofW (cc := cX0_shapeAt) (maxL := 2) (ret := (some .int)) (by decide) rfl ?_
  intro p e s m args below meth c s₁ B hml hv
  obtain ⟨hargs, hP, hK⟩ := hv
  have hx := B.exec
  have hb := B.bytes
  have hr := B.returns
  have hts := atoms_spec (ws := wX0_shapeAt) B.pre
  have hown : s.vm.findClass RX0 = some m.cls := findClass_of_methodNamed B.named
  have hlocks := B.notSynchronized
  have hl := lv_entry ([.ref (g 0), .int p0]) (n := 2) (Nat.le_of_ble_eq_true rfl)
  rw [show entryFrame m args 2 = entryFrame m (([.ref (g 0), .int p0] : List Value).toArray) 2 from by rw [hargs], lg_entry_eq]
  generalize (lg_sl ([.ref (g 0), .int p0]) ++ List.replicate (2 - (lg_sl ([.ref (g 0), .int p0])).length) Slot.unset).toArray = ls at hl ⊢
  have hl : lv_has ls 2 [(0, .ref (g 0)), (1, .int p0)] := hl
  refine lv_aload_n hx hb dX0_shapeAt_0 rfl (lv_at hl 0 rfl) ?_
  refine va_get (D := (dC, dI)) (ci := 1) (v := .ref (g 5)) (C := RX0) (T := TX0) (N := 7) hx hb hts iX0 hown hK hP 0 rfl rfl 5 (by decide) (hts _ (xm m61)) (fun _ h9 => h9) rfl dX0_shapeAt_1 ?_
  refine lv_iload_n hx hb dX0_shapeAt_4 rfl (lv_at hl 1 rfl) ?_
  refine va_iald hx hb hK hP 5 0 rfl rfl (And.left hw) dX0_shapeAt_5 ?_
  replace hw := And.right hw
  exact W.iret hx hb hr (fun t ht hW => ⟨_, rfl, hw, ht⟩) (fun q h => by cases h) dX0_shapeAt_6
abbrev wX0_wholeAlpha : List Cond := Cond.code yX0_wholeAlpha cX0_wholeAlpha 2 (some .int) :: gG
def wp_X0_wholeAlpha (n : Nat) (ub : Nat → Nat → Int32) (p0 : Int32) (P : Int32 → Prop) : Prop :=
  (vp_in p0 n ∧ (vp_in p0 n ∧ wp_X2_union (ub 2 p0.toNatClampNeg) (ub 4 p0.toNatClampNeg) (fun r1 => P r1)))
abbrev rm_X0_wholeAlpha : Room := { frames := 2, cells := 0, slots := 0, locals := 42 }
set_option maxHeartbeats 4000000 in
set_option maxRecDepth 100000 in
theorem c_X0_wholeAlpha (l : Launch) (dC : Nat → ClassId) (dI : Nat → Nat → Nat) (cA : Nat → ClassId) (g : Nat → Nat) (n : Nat) (ub : Nat → Nat → Int32) (p0 : Int32) (P : Int32 → Prop) (hw : wp_X0_wholeAlpha n ub p0 P) : Met l yX0_wholeAlpha wX0_wholeAlpha rm_X0_wholeAlpha (xP1 dC dI cA (w_ly g cA n ub) [.ref (g 0), .int p0]) (vp_Si P) 0 0 (fun _ => False) := by
  refine Met.ofW (cc := cX0_wholeAlpha) (maxL := 2) (ret := (some .int)) (by decide) rfl ?_
  intro p e s m args below meth c s₁ B hml hv
  obtain ⟨hargs, hP, hK⟩ := hv
  have hx := B.exec
  have hb := B.bytes
  have hr := B.returns
  have hts := atoms_spec (ws := wX0_wholeAlpha) B.pre
  have hown : s.vm.findClass RX0 = some m.cls := findClass_of_methodNamed B.named
  have hlocks := B.notSynchronized
  have hl := lv_entry ([.ref (g 0), .int p0]) (n := 2) (Nat.le_of_ble_eq_true rfl)
  rw [show entryFrame m args 2 = entryFrame m (([.ref (g 0), .int p0] : List Value).toArray) 2 from by rw [hargs], lg_entry_eq]
  generalize (lg_sl ([.ref (g 0), .int p0]) ++ List.replicate (2 - (lg_sl ([.ref (g 0), .int p0])).length) Slot.unset).toArray = ls at hl ⊢
  have hl : lv_has ls 2 [(0, .ref (g 0)), (1, .int p0)] := hl
  refine lv_aload_n hx hb dX0_wholeAlpha_0 rfl (lv_at hl 0 rfl) ?_
  refine va_get (D := (dC, dI)) (ci := 1) (v := .ref (g 2)) (C := RX0) (T := TX0) (N := 7) hx hb hts iX0 hown hK hP 0 rfl rfl 2 (by decide) (hts _ (xm m58)) (fun _ h9 => h9) rfl dX0_wholeAlpha_1 ?_
  refine lv_iload_n hx hb dX0_wholeAlpha_4 rfl (lv_at hl 1 rfl) ?_
  refine va_iald hx hb hK hP 2 0 rfl rfl (And.left hw) dX0_wholeAlpha_5 ?_
  replace hw := And.right hw
  refine lv_aload_n hx hb dX0_wholeAlpha_6 rfl (lv_at hl 0 rfl) ?_
  refine va_get (D := (dC, dI)) (ci := 1) (v := .ref (g 4)) (C := RX0) (T := TX0) (N := 7) hx hb hts iX0 hown hK hP 0 rfl rfl 4 (by decide) (hts _ (xm m60)) (fun _ h9 => h9) rfl dX0_wholeAlpha_7 ?_
  refine lv_iload_n hx hb dX0_wholeAlpha_10 rfl (lv_at hl 1 rfl) ?_
  refine va_iald hx hb hK hP 4 0 rfl rfl (And.left hw) dX0_wholeAlpha_11 ?_
  replace hw := And.right hw
  refine vp_callSi (va_Run.run (va_runS (As := [.int (ub 2 p0.toNatClampNeg), .int (ub 4 p0.toNatClampNeg)]) (rest := []) ⟨hx, hb, hml, hown, hts⟩ (c_X2_union l (ub 2 p0.toNatClampNeg) (ub 4 p0.toNatClampNeg) _ hw) (gcS 2 hts m257 m255 m256 m30 rfl rfl (by decide +kernel) ⟨Nat.le_of_ble_eq_true rfl, Nat.le_of_ble_eq_true rfl⟩) ⟨xbl0, fun U hU hW => ⟨rfl, trivial⟩⟩ rfl rfl hl.1 rfl (lv_room (Nat.le_of_ble_eq_true rfl)) dX0_wholeAlpha_12 ⟨Nat.le_of_ble_eq_true rfl, Nat.le_of_ble_eq_true rfl⟩)) (fun r1 hw => ?_)
  exact W.iret hx hb hr (fun t ht hW => ⟨_, rfl, hw, ht⟩) (fun q h => by cases h) dX0_wholeAlpha_15
abbrev wX0_resultBand : List Cond := Cond.code yX0_resultBand cX0_resultBand 6 (some .int) :: gG
def wp_X0_resultBand (n : Nat) (ub : Nat → Nat → Int32) (p0 : Int32) (p1 : Int32) (P : Int32 → Prop) : Prop :=
  (vp_in p0 n ∧ ∀ v1 : Int32, v1 = (ub 4 p0.toNatClampNeg) → ((0 < v1 → (vp_in p0 n ∧ wp_X2_bandOf (ub 3 p0.toNatClampNeg) p1 (fun r2 => (vp_in p0 n ∧ wp_X2_bandOf (ub 1 p0.toNatClampNeg) p1 (fun r3 => ∀ v4 : Int32, v4 = (r2 - r3) → (vp_in p0 n ∧ (¬ (255 * v1) = 0 ∧ wp_X2_within (r2 + ((v4 * ((ub 2 p0.toNatClampNeg) * (255 - v1))) / (255 * v1))) (fun r5 => P r5)))))))) ∧
  (¬ 0 < v1 → P 0)))
abbrev rm_X0_resultBand : Room := { frames := 2, cells := 0, slots := 0, locals := 41 }
set_option maxHeartbeats 4000000 in
set_option maxRecDepth 100000 in
theorem c_X0_resultBand (l : Launch) (dC : Nat → ClassId) (dI : Nat → Nat → Nat) (cA : Nat → ClassId) (g : Nat → Nat) (n : Nat) (ub : Nat → Nat → Int32) (p0 : Int32) (p1 : Int32) (P : Int32 → Prop) (hw : wp_X0_resultBand n ub p0 p1 P) : Met l yX0_resultBand wX0_resultBand rm_X0_resultBand (xP1 dC dI cA (w_ly g cA n ub) [.ref (g 0), .int p0, .int p1]) (vp_Si P) 0 0 (fun _ => False) := by
  refine Met.ofW (cc := cX0_resultBand) (maxL := 6) (ret := (some .int)) (by decide) rfl ?_
  intro p e s m args below meth c s₁ B hml hv
  obtain ⟨hargs, hP, hK⟩ := hv
  have hx := B.exec
  have hb := B.bytes
  have hr := B.returns
  have hts := atoms_spec (ws := wX0_resultBand) B.pre
  have hown : s.vm.findClass RX0 = some m.cls := findClass_of_methodNamed B.named
  have hlocks := B.notSynchronized
  have hl := lv_entry ([.ref (g 0), .int p0, .int p1]) (n := 6) (Nat.le_of_ble_eq_true rfl)
  rw [show entryFrame m args 6 = entryFrame m (([.ref (g 0), .int p0, .int p1] : List Value).toArray) 6 from by rw [hargs], lg_entry_eq]
  generalize (lg_sl ([.ref (g 0), .int p0, .int p1]) ++ List.replicate (6 - (lg_sl ([.ref (g 0), .int p0, .int p1])).length) Slot.unset).toArray = ls at hl ⊢
  have hl : lv_has ls 6 [(0, .ref (g 0)), (1, .int p0), (2, .int p1)] := hl
  refine lv_aload_n hx hb dX0_resultBand_0 rfl (lv_at hl 0 rfl) ?_
  refine va_get (D := (dC, dI)) (ci := 1) (v := .ref (g 4)) (C := RX0) (T := TX0) (N := 7) hx hb hts iX0 hown hK hP 0 rfl rfl 4 (by decide) (hts _ (xm m60)) (fun _ h9 => h9) rfl dX0_resultBand_1 ?_
  refine lv_iload_n hx hb dX0_resultBand_4 rfl (lv_at hl 1 rfl) ?_
  refine va_iald hx hb hK hP 4 0 rfl rfl (And.left hw) dX0_resultBand_5 ?_
  replace hw := And.right hw
  refine lv_topi (fun v1 e_v1 => ?_)
  replace hw := hw v1 e_v1
  refine lv_istore_n (lv' := [(3, .int v1), (0, .ref (g 0)), (1, .int p0), (2, .int p1)]) hx hb dX0_resultBand_6 rfl hl (by decide) rfl (fun ls hl => ?_)
  refine lv_iload_n hx hb dX0_resultBand_7 rfl (lv_at hl 0 rfl) ?_
  refine lv_if_gt (tgt := 13) hx hb dX0_resultBand_8 (by decide) (fun c6 => ?_) (fun c6 => ?_)
  · replace hw := And.left hw c6
    refine lv_aload_n hx hb dX0_resultBand_13 rfl (lv_at hl 1 rfl) ?_
    refine va_get (D := (dC, dI)) (ci := 1) (v := .ref (g 3)) (C := RX0) (T := TX0) (N := 7) hx hb hts iX0 hown hK hP 0 rfl rfl 3 (by decide) (hts _ (xm m59)) (fun _ h9 => h9) rfl dX0_resultBand_14 ?_
    refine lv_iload_n hx hb dX0_resultBand_17 rfl (lv_at hl 2 rfl) ?_
    refine va_iald hx hb hK hP 3 0 rfl rfl (And.left hw) dX0_resultBand_18 ?_
    replace hw := And.right hw
    refine lv_iload_n hx hb dX0_resultBand_19 rfl (lv_at hl 3 rfl) ?_
    refine vp_callSi (va_Run.run (va_runS (As := [.int (ub 3 p0.toNatClampNeg), .int p1]) (rest := []) ⟨hx, hb, hml, hown, hts⟩ (c_X2_bandOf l (ub 3 p0.toNatClampNeg) p1 _ hw) (gcS 2 hts m320 m318 m319 m30 rfl rfl (by decide +kernel) ⟨Nat.le_of_ble_eq_true rfl, Nat.le_of_ble_eq_true rfl⟩) ⟨xbl0, fun U hU hW => ⟨rfl, trivial⟩⟩ rfl rfl hl.1 rfl (lv_room (Nat.le_of_ble_eq_true rfl)) dX0_resultBand_20 ⟨Nat.le_of_ble_eq_true rfl, Nat.le_of_ble_eq_true rfl⟩)) (fun r2 hw => ?_)
    refine lv_istore (lv' := [(4, .int r2), (3, .int v1), (0, .ref (g 0)), (1, .int p0), (2, .int p1)]) hx hb dX0_resultBand_23 hl (by decide) rfl (fun ls hl => ?_)
    refine lv_iload hx hb dX0_resultBand_25 (lv_at hl 0 rfl) ?_
    refine lv_aload_n hx hb dX0_resultBand_27 rfl (lv_at hl 2 rfl) ?_
    refine va_get (D := (dC, dI)) (ci := 1) (v := .ref (g 1)) (C := RX0) (T := TX0) (N := 7) hx hb hts iX0 hown hK hP 0 rfl rfl 1 (by decide) (hts _ (xm m57)) (fun _ h9 => h9) rfl dX0_resultBand_28 ?_
    refine lv_iload_n hx hb dX0_resultBand_31 rfl (lv_at hl 3 rfl) ?_
    refine va_iald hx hb hK hP 1 0 rfl rfl (And.left hw) dX0_resultBand_32 ?_
    replace hw := And.right hw
    refine lv_iload_n hx hb dX0_resultBand_33 rfl (lv_at hl 4 rfl) ?_
    refine vp_callSi (va_Run.run (va_runS (As := [.int (ub 1 p0.toNatClampNeg), .int p1]) (rest := [.int r2]) ⟨hx, hb, hml, hown, hts⟩ (c_X2_bandOf l (ub 1 p0.toNatClampNeg) p1 _ hw) (gcS 2 hts m320 m318 m319 m30 rfl rfl (by decide +kernel) ⟨Nat.le_of_ble_eq_true rfl, Nat.le_of_ble_eq_true rfl⟩) ⟨xbl0, fun U hU hW => ⟨rfl, trivial⟩⟩ rfl rfl hl.1 rfl (lv_room (Nat.le_of_ble_eq_true rfl)) dX0_resultBand_34 ⟨Nat.le_of_ble_eq_true rfl, Nat.le_of_ble_eq_true rfl⟩)) (fun r3 hw => ?_)
    refine lv_isub hx hb dX0_resultBand_37 ?_
    refine lv_topi (fun v4 e_v4 => ?_)
    replace hw := hw v4 e_v4
    refine lv_istore (lv' := [(5, .int v4), (4, .int r2), (3, .int v1), (0, .ref (g 0)), (1, .int p0), (2, .int p1)]) hx hb dX0_resultBand_38 hl (by decide) rfl (fun ls hl => ?_)
    refine lv_iload hx hb dX0_resultBand_40 (lv_at hl 1 rfl) ?_
    refine lv_iload hx hb dX0_resultBand_42 (lv_at hl 0 rfl) ?_
    refine lv_aload_n hx hb dX0_resultBand_44 rfl (lv_at hl 3 rfl) ?_
    refine va_get (D := (dC, dI)) (ci := 1) (v := .ref (g 2)) (C := RX0) (T := TX0) (N := 7) hx hb hts iX0 hown hK hP 0 rfl rfl 2 (by decide) (hts _ (xm m58)) (fun _ h9 => h9) rfl dX0_resultBand_45 ?_
    refine lv_iload_n hx hb dX0_resultBand_48 rfl (lv_at hl 4 rfl) ?_
    refine va_iald hx hb hK hP 2 0 rfl rfl (And.left hw) dX0_resultBand_49 ?_
    replace hw := And.right hw
    refine lv_sipush (v := 255) hx hb dX0_resultBand_50 (by decide) ?_
    refine lv_iload_n hx hb dX0_resultBand_53 rfl (lv_at hl 2 rfl) ?_
    refine lv_isub hx hb dX0_resultBand_54 ?_
    refine lv_imul hx hb dX0_resultBand_55 ?_
    refine lv_imul hx hb dX0_resultBand_56 ?_
    refine lv_sipush (v := 255) hx hb dX0_resultBand_57 (by decide) ?_
    refine lv_iload_n hx hb dX0_resultBand_60 rfl (lv_at hl 2 rfl) ?_
    refine lv_imul hx hb dX0_resultBand_61 ?_
    refine lv_idiv hx hb dX0_resultBand_62 (And.left hw) ?_
    replace hw := And.right hw
    refine lv_iadd hx hb dX0_resultBand_63 ?_
    refine vp_callSi (va_Run.run (va_runS (As := [.int (r2 + ((v4 * ((ub 2 p0.toNatClampNeg) * (255 - v1))) / (255 * v1)))]) (rest := []) ⟨hx, hb, hml, hown, hts⟩ (c_X2_within l (r2 + ((v4 * ((ub 2 p0.toNatClampNeg) * (255 - v1))) / (255 * v1))) _ hw) (gcS 1 hts m323 m321 m322 m30 rfl rfl (by decide +kernel) ⟨Nat.le_of_ble_eq_true rfl, Nat.le_of_ble_eq_true rfl⟩) ⟨xbl0, fun U hU hW => ⟨rfl, trivial⟩⟩ rfl rfl hl.1 rfl (lv_room (Nat.le_of_ble_eq_true rfl)) dX0_resultBand_64 ⟨Nat.le_of_ble_eq_true rfl, Nat.le_of_ble_eq_true rfl⟩)) (fun r5 hw => ?_)
    exact W.iret hx hb hr (fun t ht hW => ⟨_, rfl, hw, ht⟩) (fun q h => by cases h) dX0_resultBand_67
  · replace hw := And.right hw c6
    refine lv_iconst (v := 0) hx hb dX0_resultBand_11 (by decide) ?_
    exact W.iret hx hb hr (fun t ht hW => ⟨_, rfl, hw, ht⟩) (fun q h => by cases h) dX0_resultBand_12
abbrev wX0_result : List Cond := Cond.code yX0_result cX0_result 2 (some .int) :: gG
def wp_X0_result (n : Nat) (ub : Nat → Nat → Int32) (p0 : Int32) (P : Int32 → Prop) : Prop :=
  wp_X0_resultBand n ub p0 0 (fun r1 => wp_X0_resultBand n ub p0 1 (fun r2 => wp_X0_resultBand n ub p0 2 (fun r3 => wp_X2_packed r1 r2 r3 (fun r4 => P r4))))
abbrev rm_X0_result : Room := { frames := 3, cells := 0, slots := 0, locals := 66 }
set_option maxHeartbeats 4000000 in
set_option maxRecDepth 100000 in
theorem c_X0_result (l : Launch) (dC : Nat → ClassId) (dI : Nat → Nat → Nat) (cA : Nat → ClassId) (g : Nat → Nat) (n : Nat) (ub : Nat → Nat → Int32) (p0 : Int32) (P : Int32 → Prop) (hw : wp_X0_result n ub p0 P) : Met l yX0_result wX0_result rm_X0_result (xP1 dC dI cA (w_ly g cA n ub) [.ref (g 0), .int p0]) (vp_Si P) 0 0 (fun _ => False) := by
  refine Met.ofW (cc := cX0_result) (maxL := 2) (ret := (some .int)) (by decide) rfl ?_
  intro p e s m args below meth c s₁ B hml hv
  obtain ⟨hargs, hP, hK⟩ := hv
  have hx := B.exec
  have hb := B.bytes
  have hr := B.returns
  have hts := atoms_spec (ws := wX0_result) B.pre
  have hown : s.vm.findClass RX0 = some m.cls := findClass_of_methodNamed B.named
  have hlocks := B.notSynchronized
  have hl := lv_entry ([.ref (g 0), .int p0]) (n := 2) (Nat.le_of_ble_eq_true rfl)
  rw [show entryFrame m args 2 = entryFrame m (([.ref (g 0), .int p0] : List Value).toArray) 2 from by rw [hargs], lg_entry_eq]
  generalize (lg_sl ([.ref (g 0), .int p0]) ++ List.replicate (2 - (lg_sl ([.ref (g 0), .int p0])).length) Slot.unset).toArray = ls at hl ⊢
  have hl : lv_has ls 2 [(0, .ref (g 0)), (1, .int p0)] := hl
  refine lv_aload_n hx hb dX0_result_0 rfl (lv_at hl 0 rfl) ?_
  refine lv_iload_n hx hb dX0_result_1 rfl (lv_at hl 1 rfl) ?_
  refine lv_iconst (v := 0) hx hb dX0_result_2 (by decide) ?_
  have hPc : va_P (dC, dI) vwCl (w_ly g cA n ub) _ := hP
  refine vp_callSi (va_Run.run (va_runV (As := [.int p0, .int 0]) (rest := []) ⟨hx, hb, hml, hown, hts⟩ (c_X0_resultBand l dC dI cA g n ub p0 0 _ hw) (gcV 2 hts m317 m314 m316 m5 m23 rfl rfl (by decide +kernel) ⟨Nat.le_of_ble_eq_true rfl, Nat.le_of_ble_eq_true rfl⟩) ⟨xbl1, va_recv hK hPc (ci := 1) (q0 := 0) rfl rfl, fun U hU hW => ⟨rfl, by rw [hU]; exact hPc, va_K.moved hW.alike hK⟩⟩ rfl rfl hl.1 rfl (lv_room (Nat.le_of_ble_eq_true rfl)) dX0_result_3 ⟨Nat.le_of_ble_eq_true rfl, Nat.le_of_ble_eq_true rfl⟩)) (fun r1 hw => ?_)
  refine lv_aload_n hx hb dX0_result_6 rfl (lv_at hl 0 rfl) ?_
  refine lv_iload_n hx hb dX0_result_7 rfl (lv_at hl 1 rfl) ?_
  refine lv_iconst (v := 1) hx hb dX0_result_8 (by decide) ?_
  have hPc : va_P (dC, dI) vwCl (w_ly g cA n ub) _ := hP
  refine vp_callSi (va_Run.run (va_runV (As := [.int p0, .int 1]) (rest := [.int r1]) ⟨hx, hb, hml, hown, hts⟩ (c_X0_resultBand l dC dI cA g n ub p0 1 _ hw) (gcV 2 hts m317 m314 m316 m5 m23 rfl rfl (by decide +kernel) ⟨Nat.le_of_ble_eq_true rfl, Nat.le_of_ble_eq_true rfl⟩) ⟨xbl1, va_recv hK hPc (ci := 1) (q0 := 0) rfl rfl, fun U hU hW => ⟨rfl, by rw [hU]; exact hPc, va_K.moved hW.alike hK⟩⟩ rfl rfl hl.1 rfl (lv_room (Nat.le_of_ble_eq_true rfl)) dX0_result_9 ⟨Nat.le_of_ble_eq_true rfl, Nat.le_of_ble_eq_true rfl⟩)) (fun r2 hw => ?_)
  refine lv_aload_n hx hb dX0_result_12 rfl (lv_at hl 0 rfl) ?_
  refine lv_iload_n hx hb dX0_result_13 rfl (lv_at hl 1 rfl) ?_
  refine lv_iconst (v := 2) hx hb dX0_result_14 (by decide) ?_
  have hPc : va_P (dC, dI) vwCl (w_ly g cA n ub) _ := hP
  refine vp_callSi (va_Run.run (va_runV (As := [.int p0, .int 2]) (rest := [.int r2, .int r1]) ⟨hx, hb, hml, hown, hts⟩ (c_X0_resultBand l dC dI cA g n ub p0 2 _ hw) (gcV 2 hts m317 m314 m316 m5 m23 rfl rfl (by decide +kernel) ⟨Nat.le_of_ble_eq_true rfl, Nat.le_of_ble_eq_true rfl⟩) ⟨xbl1, va_recv hK hPc (ci := 1) (q0 := 0) rfl rfl, fun U hU hW => ⟨rfl, by rw [hU]; exact hPc, va_K.moved hW.alike hK⟩⟩ rfl rfl hl.1 rfl (lv_room (Nat.le_of_ble_eq_true rfl)) dX0_result_15 ⟨Nat.le_of_ble_eq_true rfl, Nat.le_of_ble_eq_true rfl⟩)) (fun r3 hw => ?_)
  refine vp_callSi (va_Run.run (va_runS (As := [.int r1, .int r2, .int r3]) (rest := []) ⟨hx, hb, hml, hown, hts⟩ (c_X2_packed l r1 r2 r3 _ hw) (gcS 3 hts m328 m326 m327 m30 rfl rfl (by decide +kernel) ⟨Nat.le_of_ble_eq_true rfl, Nat.le_of_ble_eq_true rfl⟩) ⟨xbl0, fun U hU hW => ⟨rfl, trivial⟩⟩ rfl rfl hl.1 rfl (lv_room (Nat.le_of_ble_eq_true rfl)) dX0_result_18 ⟨Nat.le_of_ble_eq_true rfl, Nat.le_of_ble_eq_true rfl⟩)) (fun r4 hw => ?_)
  exact W.iret hx hb hr (fun t ht hW => ⟨_, rfl, hw, ht⟩) (fun q h => by cases h) dX0_result_21
abbrev wX0_resultLum : List Cond := Cond.code yX0_resultLum cX0_resultLum 4 (some .int) :: gG
def wp_X0_resultLum (n : Nat) (ub : Nat → Nat → Int32) (p0 : Int32) (P : Int32 → Prop) : Prop :=
  wp_X0_result n ub p0 (fun r1 => (vp_in p0 n ∧ ∀ v2 : Int32, v2 = (ub 4 p0.toNatClampNeg) → wp_X2_bandOf r1 0 (fun r3 => wp_X2_mul r3 v2 (fun r4 => wp_X2_bandOf r1 1 (fun r5 => wp_X2_mul r5 v2 (fun r6 => wp_X2_bandOf r1 2 (fun r7 => wp_X2_mul r7 v2 (fun r8 => wp_X2_lum r4 r6 r8 (fun r9 => P r9)))))))))
abbrev rm_X0_resultLum : Room := { frames := 4, cells := 0, slots := 0, locals := 87 }
set_option maxHeartbeats 4000000 in
set_option maxRecDepth 100000 in
theorem c_X0_resultLum (l : Launch) (dC : Nat → ClassId) (dI : Nat → Nat → Nat) (cA : Nat → ClassId) (g : Nat → Nat) (n : Nat) (ub : Nat → Nat → Int32) (p0 : Int32) (P : Int32 → Prop) (hw : wp_X0_resultLum n ub p0 P) : Met l yX0_resultLum wX0_resultLum rm_X0_resultLum (xP1 dC dI cA (w_ly g cA n ub) [.ref (g 0), .int p0]) (vp_Si P) 0 0 (fun _ => False) := by
  refine Met.ofW (cc := cX0_resultLum) (maxL := 4) (ret := (some .int)) (by decide) rfl ?_
  intro p e s m args below meth c s₁ B hml hv
  obtain ⟨hargs, hP, hK⟩ := hv
  have hx := B.exec
  have hb := B.bytes
  have hr := B.returns
  have hts := atoms_spec (ws := wX0_resultLum) B.pre
  have hown : s.vm.findClass RX0 = some m.cls := findClass_of_methodNamed B.named
  have hlocks := B.notSynchronized
  have hl := lv_entry ([.ref (g 0), .int p0]) (n := 4) (Nat.le_of_ble_eq_true rfl)
  rw [show entryFrame m args 4 = entryFrame m (([.ref (g 0), .int p0] : List Value).toArray) 4 from by rw [hargs], lg_entry_eq]
  generalize (lg_sl ([.ref (g 0), .int p0]) ++ List.replicate (4 - (lg_sl ([.ref (g 0), .int p0])).length) Slot.unset).toArray = ls at hl ⊢
  have hl : lv_has ls 4 [(0, .ref (g 0)), (1, .int p0)] := hl
  refine lv_aload_n hx hb dX0_resultLum_0 rfl (lv_at hl 0 rfl) ?_
  refine lv_iload_n hx hb dX0_resultLum_1 rfl (lv_at hl 1 rfl) ?_
  have hPc : va_P (dC, dI) vwCl (w_ly g cA n ub) _ := hP
  refine vp_callSi (va_Run.run (va_runV (As := [.int p0]) (rest := []) ⟨hx, hb, hml, hown, hts⟩ (c_X0_result l dC dI cA g n ub p0 _ hw) (gcV 1 hts m313 m408 m311 m312 m23 rfl rfl (by decide +kernel) ⟨Nat.le_of_ble_eq_true rfl, Nat.le_of_ble_eq_true rfl⟩) ⟨xbl1, va_recv hK hPc (ci := 1) (q0 := 0) rfl rfl, fun U hU hW => ⟨rfl, by rw [hU]; exact hPc, va_K.moved hW.alike hK⟩⟩ rfl rfl hl.1 rfl (lv_room (Nat.le_of_ble_eq_true rfl)) dX0_resultLum_2 ⟨Nat.le_of_ble_eq_true rfl, Nat.le_of_ble_eq_true rfl⟩)) (fun r1 hw => ?_)
  refine lv_istore_n (lv' := [(2, .int r1), (0, .ref (g 0)), (1, .int p0)]) hx hb dX0_resultLum_5 rfl hl (by decide) rfl (fun ls hl => ?_)
  refine lv_aload_n hx hb dX0_resultLum_6 rfl (lv_at hl 1 rfl) ?_
  refine va_get (D := (dC, dI)) (ci := 1) (v := .ref (g 4)) (C := RX0) (T := TX0) (N := 7) hx hb hts iX0 hown hK hP 0 rfl rfl 4 (by decide) (hts _ (xm m60)) (fun _ h9 => h9) rfl dX0_resultLum_7 ?_
  refine lv_iload_n hx hb dX0_resultLum_10 rfl (lv_at hl 2 rfl) ?_
  refine va_iald hx hb hK hP 4 0 rfl rfl (And.left hw) dX0_resultLum_11 ?_
  replace hw := And.right hw
  refine lv_topi (fun v2 e_v2 => ?_)
  replace hw := hw v2 e_v2
  refine lv_istore_n (lv' := [(3, .int v2), (2, .int r1), (0, .ref (g 0)), (1, .int p0)]) hx hb dX0_resultLum_12 rfl hl (by decide) rfl (fun ls hl => ?_)
  refine lv_iload_n hx hb dX0_resultLum_13 rfl (lv_at hl 1 rfl) ?_
  refine lv_iconst (v := 0) hx hb dX0_resultLum_14 (by decide) ?_
  refine vp_callSi (va_Run.run (va_runS (As := [.int r1, .int 0]) (rest := []) ⟨hx, hb, hml, hown, hts⟩ (c_X2_bandOf l r1 0 _ hw) (gcS 2 hts m320 m318 m319 m30 rfl rfl (by decide +kernel) ⟨Nat.le_of_ble_eq_true rfl, Nat.le_of_ble_eq_true rfl⟩) ⟨xbl0, fun U hU hW => ⟨rfl, trivial⟩⟩ rfl rfl hl.1 rfl (lv_room (Nat.le_of_ble_eq_true rfl)) dX0_resultLum_15 ⟨Nat.le_of_ble_eq_true rfl, Nat.le_of_ble_eq_true rfl⟩)) (fun r3 hw => ?_)
  refine lv_iload_n hx hb dX0_resultLum_18 rfl (lv_at hl 0 rfl) ?_
  refine vp_callSi (va_Run.run (va_runS (As := [.int r3, .int v2]) (rest := []) ⟨hx, hb, hml, hown, hts⟩ (c_X2_mul l r3 v2 _ hw) (gcS 2 hts m260 m409 m259 m30 rfl rfl (by decide +kernel) ⟨Nat.le_of_ble_eq_true rfl, Nat.le_of_ble_eq_true rfl⟩) ⟨xbl0, fun U hU hW => ⟨rfl, trivial⟩⟩ rfl rfl hl.1 rfl (lv_room (Nat.le_of_ble_eq_true rfl)) dX0_resultLum_19 ⟨Nat.le_of_ble_eq_true rfl, Nat.le_of_ble_eq_true rfl⟩)) (fun r4 hw => ?_)
  refine lv_iload_n hx hb dX0_resultLum_22 rfl (lv_at hl 1 rfl) ?_
  refine lv_iconst (v := 1) hx hb dX0_resultLum_23 (by decide) ?_
  refine vp_callSi (va_Run.run (va_runS (As := [.int r1, .int 1]) (rest := [.int r4]) ⟨hx, hb, hml, hown, hts⟩ (c_X2_bandOf l r1 1 _ hw) (gcS 2 hts m320 m318 m319 m30 rfl rfl (by decide +kernel) ⟨Nat.le_of_ble_eq_true rfl, Nat.le_of_ble_eq_true rfl⟩) ⟨xbl0, fun U hU hW => ⟨rfl, trivial⟩⟩ rfl rfl hl.1 rfl (lv_room (Nat.le_of_ble_eq_true rfl)) dX0_resultLum_24 ⟨Nat.le_of_ble_eq_true rfl, Nat.le_of_ble_eq_true rfl⟩)) (fun r5 hw => ?_)
  refine lv_iload_n hx hb dX0_resultLum_27 rfl (lv_at hl 0 rfl) ?_
  refine vp_callSi (va_Run.run (va_runS (As := [.int r5, .int v2]) (rest := [.int r4]) ⟨hx, hb, hml, hown, hts⟩ (c_X2_mul l r5 v2 _ hw) (gcS 2 hts m260 m409 m259 m30 rfl rfl (by decide +kernel) ⟨Nat.le_of_ble_eq_true rfl, Nat.le_of_ble_eq_true rfl⟩) ⟨xbl0, fun U hU hW => ⟨rfl, trivial⟩⟩ rfl rfl hl.1 rfl (lv_room (Nat.le_of_ble_eq_true rfl)) dX0_resultLum_28 ⟨Nat.le_of_ble_eq_true rfl, Nat.le_of_ble_eq_true rfl⟩)) (fun r6 hw => ?_)
  refine lv_iload_n hx hb dX0_resultLum_31 rfl (lv_at hl 1 rfl) ?_
  refine lv_iconst (v := 2) hx hb dX0_resultLum_32 (by decide) ?_
  refine vp_callSi (va_Run.run (va_runS (As := [.int r1, .int 2]) (rest := [.int r6, .int r4]) ⟨hx, hb, hml, hown, hts⟩ (c_X2_bandOf l r1 2 _ hw) (gcS 2 hts m320 m318 m319 m30 rfl rfl (by decide +kernel) ⟨Nat.le_of_ble_eq_true rfl, Nat.le_of_ble_eq_true rfl⟩) ⟨xbl0, fun U hU hW => ⟨rfl, trivial⟩⟩ rfl rfl hl.1 rfl (lv_room (Nat.le_of_ble_eq_true rfl)) dX0_resultLum_33 ⟨Nat.le_of_ble_eq_true rfl, Nat.le_of_ble_eq_true rfl⟩)) (fun r7 hw => ?_)
  refine lv_iload_n hx hb dX0_resultLum_36 rfl (lv_at hl 0 rfl) ?_
  refine vp_callSi (va_Run.run (va_runS (As := [.int r7, .int v2]) (rest := [.int r6, .int r4]) ⟨hx, hb, hml, hown, hts⟩ (c_X2_mul l r7 v2 _ hw) (gcS 2 hts m260 m409 m259 m30 rfl rfl (by decide +kernel) ⟨Nat.le_of_ble_eq_true rfl, Nat.le_of_ble_eq_true rfl⟩) ⟨xbl0, fun U hU hW => ⟨rfl, trivial⟩⟩ rfl rfl hl.1 rfl (lv_room (Nat.le_of_ble_eq_true rfl)) dX0_resultLum_37 ⟨Nat.le_of_ble_eq_true rfl, Nat.le_of_ble_eq_true rfl⟩)) (fun r8 hw => ?_)
  refine vp_callSi (va_Run.run (va_runS (As := [.int r4, .int r6, .int r8]) (rest := []) ⟨hx, hb, hml, hown, hts⟩ (c_X2_lum l r4 r6 r8 _ hw) (gcS 3 hts m361 m410 m360 m30 rfl rfl (by decide +kernel) ⟨Nat.le_of_ble_eq_true rfl, Nat.le_of_ble_eq_true rfl⟩) ⟨xbl0, fun U hU hW => ⟨rfl, trivial⟩⟩ rfl rfl hl.1 rfl (lv_room (Nat.le_of_ble_eq_true rfl)) dX0_resultLum_40 ⟨Nat.le_of_ble_eq_true rfl, Nat.le_of_ble_eq_true rfl⟩)) (fun r9 hw => ?_)
  exact W.iret hx hb hr (fun t ht hW => ⟨_, rfl, hw, ht⟩) (fun q h => by cases h) dX0_resultLum_43
