theorem m7 : Cond.selects RX3 yX3_needPoint yX3_needPoint ∈ gG := gG_mk (i := 7) (by decide +kernel) (by decide +kernel)
theorem m82 : Cond.fieldLink RX3 28 "BlendRows" "covers" "[I" ∈ gG := gG_mk (i := 82) (by decide +kernel) (by decide +kernel)
theorem m88 : Cond.fieldLink RX3 44 "BlendRows" "boundNow" "I" ∈ gG := gG_mk (i := 88) (by decide +kernel) (by decide +kernel)
theorem m91 : Cond.fieldLink RX3 57 "BlendRows" "made" "I" ∈ gG := gG_mk (i := 91) (by decide +kernel) (by decide +kernel)
theorem m289 : Cond.methodLink RX3 89 yX3_needMode ∈ gG := gG_mk (i := 289) (by decide +kernel) (by decide +kernel)
theorem m290 : Cond.static yX3_needMode ∈ gG := gG_mk (i := 290) (by decide +kernel) (by decide +kernel)
theorem m291 : Cond.code yX3_needMode cX3_needMode 2 none ∈ gG := gG_mk (i := 291) (by decide +kernel) (by decide +kernel)
theorem m293 : Cond.methodLink RX3 93 yX3_needByte ∈ gG := gG_mk (i := 293) (by decide +kernel) (by decide +kernel)
theorem m294 : Cond.static yX3_needByte ∈ gG := gG_mk (i := 294) (by decide +kernel) (by decide +kernel)
theorem m295 : Cond.code yX3_needByte cX3_needByte 1 none ∈ gG := gG_mk (i := 295) (by decide +kernel) (by decide +kernel)
theorem m301 : Cond.methodLink RX3 99 yX0_shapeAt ∈ gG := gG_mk (i := 301) (by decide +kernel) (by decide +kernel)
theorem m302 : Cond.instanceMethod yX0_shapeAt ∈ gG := gG_mk (i := 302) (by decide +kernel) (by decide +kernel)
theorem m303 : Cond.selects RX0 yX0_shapeAt yX0_shapeAt ∈ gG := gG_mk (i := 303) (by decide +kernel) (by decide +kernel)
theorem m304 : Cond.code yX0_shapeAt cX0_shapeAt 2 (some .int) ∈ gG := gG_mk (i := 304) (by decide +kernel) (by decide +kernel)
theorem m305 : Cond.methodLink RX3 103 yX0_ownAlpha ∈ gG := gG_mk (i := 305) (by decide +kernel) (by decide +kernel)
theorem m306 : Cond.instanceMethod yX0_ownAlpha ∈ gG := gG_mk (i := 306) (by decide +kernel) (by decide +kernel)
theorem m307 : Cond.selects RX0 yX0_ownAlpha yX0_ownAlpha ∈ gG := gG_mk (i := 307) (by decide +kernel) (by decide +kernel)
theorem m308 : Cond.code yX0_ownAlpha cX0_ownAlpha 2 (some .int) ∈ gG := gG_mk (i := 308) (by decide +kernel) (by decide +kernel)
theorem m419 : Cond.methodLink RX3 129 yX3_needBand ∈ gG := gG_mk (i := 419) (by decide +kernel) (by decide +kernel)
theorem m420 : Cond.static yX3_needBand ∈ gG := gG_mk (i := 420) (by decide +kernel) (by decide +kernel)
theorem m421 : Cond.code yX3_needBand cX3_needBand 1 none ∈ gG := gG_mk (i := 421) (by decide +kernel) (by decide +kernel)
theorem m457 : Cond.methodLink RX3 135 yX3_needPoint ∈ gG := gG_mk (i := 457) (by decide +kernel) (by decide +kernel)
theorem m459 : Cond.instanceMethod yX3_needPoint ∈ gG := gG_mk (i := 459) (by decide +kernel) (by decide +kernel)
theorem m460 : Cond.code yX3_needPoint cX3_needPoint 3 none ∈ gG := gG_mk (i := 460) (by decide +kernel) (by decide +kernel)
theorem m483 : Cond.methodLink RX3 138 yX0_colourAt ∈ gG := gG_mk (i := 483) (by decide +kernel) (by decide +kernel)
theorem m484 : Cond.methodLink RX3 141 yX2_bandOf ∈ gG := gG_mk (i := 484) (by decide +kernel) (by decide +kernel)
theorem m492 : Cond.methodLink RX3 144 yX0_wholeAlpha ∈ gG := gG_mk (i := 492) (by decide +kernel) (by decide +kernel)
theorem m508 : Cond.methodLink RX3 149 yX1_ofBytes ∈ gG := gG_mk (i := 508) (by decide +kernel) (by decide +kernel)
theorem m516 : Cond.methodLink RX3 155 yX3_needColour ∈ gG := gG_mk (i := 516) (by decide +kernel) (by decide +kernel)
theorem m517 : Cond.static yX3_needColour ∈ gG := gG_mk (i := 517) (by decide +kernel) (by decide +kernel)
theorem m518 : Cond.code yX3_needColour cX3_needColour 1 none ∈ gG := gG_mk (i := 518) (by decide +kernel) (by decide +kernel)
theorem m521 : Cond.methodLink RX3 158 yX1_ofColours ∈ gG := gG_mk (i := 521) (by decide +kernel) (by decide +kernel)
abbrev wX3_told : List Cond := Cond.code yX3_told cX3_told 2 (some .int) :: gG
def wp_X3_told (n : Nat) (ua : Nat → Nat → Int32) (p0 : Int32) (P : Int32 → Prop) (PX : String → Prop) : Prop :=
  ((p0 = 0 → P (ua 0 0)) ∧
  (¬ p0 = 0 → ((p0 = 1 → P (ua 0 1)) ∧
  (¬ p0 = 1 → ((p0 = 2 → P (ua 0 7)) ∧
  (¬ p0 = 2 → ((p0 = 3 → P (ua 0 6)) ∧
  (¬ p0 = 3 → ((p0 = 4 → (((ua 0 3) = 0 → P 0) ∧
  (¬ (ua 0 3) = 0 → P 1))) ∧
  (¬ p0 = 4 → ((p0 = 5 → P (ua 0 9)) ∧
  (¬ p0 = 5 → PX "java/lang/IllegalArgumentException"))))))))))))
abbrev rm_X3_told : Room := { frames := 6, cells := 1, slots := 6, locals := 90 }
set_option maxHeartbeats 4000000 in
set_option maxRecDepth 100000 in
theorem c_X3_told (l : Launch) (hl0 : l.stackTraces = false) (dC : Nat → ClassId) (dI : Nat → Nat → Nat) (cA : Nat → ClassId) (sa : Nat → Nat) (ga : Nat → Nat) (gl : Nat → Nat → Nat) (n : Nat) (ua : Nat → Nat → Int32) (p0 : Int32) (P : Int32 → Prop) (PX : String → Prop) (hw : wp_X3_told n ua p0 P PX) : vx_Met l yX3_told wX3_told rm_X3_told (xP1t dC dI cA sa (w_br ga gl cA n ua) [.ref (ga 0), .int p0]) (va_Qi (fun r (_ : Unit) => P r) (fun _ _ => True) (fun _ => False)) (xX PX) 1 6 (fun _ => False) := by
  refine vx_ofW (cc := cX3_told) (maxL := 2) (ret := (some .int)) (by decide) rfl ?_
  intro p e s m args below meth c s₁ B hml hnoex hv
  obtain ⟨hargs, hP, hK, hE⟩ := hv
  have hx := B.exec
  have hb := B.bytes
  have hr := B.returns
  have hts := atoms_spec (ws := wX3_told) B.pre
  have hown : s.vm.findClass RX3 = some m.cls := findClass_of_methodNamed B.named
  have hlocks := B.notSynchronized
  have hS : va_S (fun _ => False) s.heap s.heap [] := va_S.rf
  have hl := lv_entry ([.ref (ga 0), .int p0]) (n := 2) (Nat.le_of_ble_eq_true rfl)
  rw [show entryFrame m args 2 = entryFrame m (([.ref (ga 0), .int p0] : List Value).toArray) 2 from by rw [hargs], lg_entry_eq]
  generalize (lg_sl ([.ref (ga 0), .int p0]) ++ List.replicate (2 - (lg_sl ([.ref (ga 0), .int p0])).length) Slot.unset).toArray = ls at hl ⊢
  have hl : lv_has ls 2 [(0, .ref (ga 0)), (1, .int p0)] := hl
  refine lv_iload_n hx hb dX3_told_0 rfl (lv_at hl 1 rfl) ?_
  by_cases c1 : p0 = 0
  · replace hw := And.left hw c1
    refine lv_tableIn (tgt := 40) hx hb dX3_told_1 (by rw [c1]; decide) (by rw [c1]; decide) (by rw [c1]; rfl) (by decide) ?_
    refine lv_aload_n hx hb dX3_told_40 rfl (lv_at hl 0 rfl) ?_
    refine va_get (D := (dC, dI)) (ci := 2) (v := .int (ua 0 0)) (C := RX3) (T := TX3) (N := 13) hx hb hts iX3 hown hK hP 0 rfl rfl 0 (by decide) (hts _ (xm m79)) (fun _ h9 => h9) rfl dX3_told_41 ?_
    refine W.widen (k := 1) (n := 6) (by decide) (by decide) ?_
    refine vx_ret ?_
    exact W.iret hx hb hr (fun t ht hW => ⟨⟨_, (), rfl, hw, trivial⟩, hS.F ht⟩) hS.2.2 dX3_told_44
  replace hw := And.right hw c1
  by_cases c2 : p0 = 1
  · replace hw := And.left hw c2
    refine lv_tableIn (tgt := 45) hx hb dX3_told_1 (by rw [c2]; decide) (by rw [c2]; decide) (by rw [c2]; rfl) (by decide) ?_
    refine lv_aload_n hx hb dX3_told_45 rfl (lv_at hl 0 rfl) ?_
    refine va_get (D := (dC, dI)) (ci := 2) (v := .int (ua 0 1)) (C := RX3) (T := TX3) (N := 13) hx hb hts iX3 hown hK hP 0 rfl rfl 1 (by decide) (hts _ (xm m80)) (fun _ h9 => h9) rfl dX3_told_46 ?_
    refine W.widen (k := 1) (n := 6) (by decide) (by decide) ?_
    refine vx_ret ?_
    exact W.iret hx hb hr (fun t ht hW => ⟨⟨_, (), rfl, hw, trivial⟩, hS.F ht⟩) hS.2.2 dX3_told_49
  replace hw := And.right hw c2
  by_cases c3 : p0 = 2
  · replace hw := And.left hw c3
    refine lv_tableIn (tgt := 50) hx hb dX3_told_1 (by rw [c3]; decide) (by rw [c3]; decide) (by rw [c3]; rfl) (by decide) ?_
    refine lv_aload_n hx hb dX3_told_50 rfl (lv_at hl 0 rfl) ?_
    refine va_get (D := (dC, dI)) (ci := 2) (v := .int (ua 0 7)) (C := RX3) (T := TX3) (N := 13) hx hb hts iX3 hown hK hP 0 rfl rfl 10 (by decide) (hts _ (xm m89)) (fun _ h9 => h9) rfl dX3_told_51 ?_
    refine W.widen (k := 1) (n := 6) (by decide) (by decide) ?_
    refine vx_ret ?_
    exact W.iret hx hb hr (fun t ht hW => ⟨⟨_, (), rfl, hw, trivial⟩, hS.F ht⟩) hS.2.2 dX3_told_54
  replace hw := And.right hw c3
  by_cases c4 : p0 = 3
  · replace hw := And.left hw c4
    refine lv_tableIn (tgt := 55) hx hb dX3_told_1 (by rw [c4]; decide) (by rw [c4]; decide) (by rw [c4]; rfl) (by decide) ?_
    refine lv_aload_n hx hb dX3_told_55 rfl (lv_at hl 0 rfl) ?_
    refine va_get (D := (dC, dI)) (ci := 2) (v := .int (ua 0 6)) (C := RX3) (T := TX3) (N := 13) hx hb hts iX3 hown hK hP 0 rfl rfl 9 (by decide) (hts _ (xm m88)) (fun _ h9 => h9) rfl dX3_told_56 ?_
    refine W.widen (k := 1) (n := 6) (by decide) (by decide) ?_
    refine vx_ret ?_
    exact W.iret hx hb hr (fun t ht hW => ⟨⟨_, (), rfl, hw, trivial⟩, hS.F ht⟩) hS.2.2 dX3_told_59
  replace hw := And.right hw c4
  by_cases c5 : p0 = 4
  · replace hw := And.left hw c5
    refine lv_tableIn (tgt := 60) hx hb dX3_told_1 (by rw [c5]; decide) (by rw [c5]; decide) (by rw [c5]; rfl) (by decide) ?_
    refine lv_aload_n hx hb dX3_told_60 rfl (lv_at hl 0 rfl) ?_
    refine va_get (D := (dC, dI)) (ci := 2) (v := .int (ua 0 3)) (C := RX3) (T := TX3) (N := 13) hx hb hts iX3 hown hK hP 0 rfl rfl 6 (by decide) (hts _ (xm m85)) (fun _ h9 => h9) rfl dX3_told_61 ?_
    refine lv_if_eq (tgt := 71) hx hb dX3_told_64 (by decide) (fun c6 => ?_) (fun c6 => ?_)
    · replace hw := And.left hw c6
      refine lv_iconst (v := 0) hx hb dX3_told_71 (by decide) ?_
      refine W.widen (k := 1) (n := 6) (by decide) (by decide) ?_
      refine vx_ret ?_
      exact W.iret hx hb hr (fun t ht hW => ⟨⟨_, (), rfl, hw, trivial⟩, hS.F ht⟩) hS.2.2 dX3_told_72
    · replace hw := And.right hw c6
      refine lv_iconst (v := 1) hx hb dX3_told_67 (by decide) ?_
      refine lv_goto (tgt := 72) hx hb dX3_told_68 (by decide) ?_
      refine W.widen (k := 1) (n := 6) (by decide) (by decide) ?_
      refine vx_ret ?_
      exact W.iret hx hb hr (fun t ht hW => ⟨⟨_, (), rfl, hw, trivial⟩, hS.F ht⟩) hS.2.2 dX3_told_72
  replace hw := And.right hw c5
  by_cases c7 : p0 = 5
  · replace hw := And.left hw c7
    refine lv_tableIn (tgt := 73) hx hb dX3_told_1 (by rw [c7]; decide) (by rw [c7]; decide) (by rw [c7]; rfl) (by decide) ?_
    refine lv_aload_n hx hb dX3_told_73 rfl (lv_at hl 0 rfl) ?_
    refine va_get (D := (dC, dI)) (ci := 2) (v := .int (ua 0 9)) (C := RX3) (T := TX3) (N := 13) hx hb hts iX3 hown hK hP 0 rfl rfl 12 (by decide) (hts _ (xm m91)) (fun _ h9 => h9) rfl dX3_told_74 ?_
    refine W.widen (k := 1) (n := 6) (by decide) (by decide) ?_
    refine vx_ret ?_
    exact W.iret hx hb hr (fun t ht hW => ⟨⟨_, (), rfl, hw, trivial⟩, hS.F ht⟩) hS.2.2 dX3_told_77
  replace hw := And.right hw c7
  refine lv_tableOut (tgt := 78) hx hb dX3_told_1 (xsw0_5 c1 c2 c3 c4 c5 c7) (by decide) ?_
  exact vx_throwS hx hb hl0 (own := RX3) (cls := "java/lang/IllegalArgumentException") (text := "nothing is told of that") (names := ["java/lang/RuntimeException", "java/lang/Exception"]) hown (by decide +kernel) (by decide +kernel) (hts _ (xm m134)) (hts _ (xm m28)) (hE.2.2.1 0 _ rfl) (xhat tw_IllegalArgumentException_64 hts hE) tw_IllegalArgumentException_64_g hE.1 hE.2.1 hS (hl.1.trans hml.symm) dX3_told_78 dX3_told_81 dX3_told_82 dX3_told_84 dX3_told_87 (fun x hx9 => (hnoex x hx9).elim) (Nat.le_of_ble_eq_true rfl) (Nat.le_of_ble_eq_true rfl) (Nat.le_of_ble_eq_true rfl) (Nat.le_of_ble_eq_true rfl) hlocks (fun t _ h1 h2 => ⟨_, hw, rfl, xF hS h1 h2⟩) (fun z hz => (hS.2.2 z hz).elim) (Nat.le_of_ble_eq_true rfl) (Nat.le_of_ble_eq_true rfl)
abbrev wX3_separable : List Cond := Cond.code yX3_separable cX3_separable 4 (some .int) :: gG
def wp_X3_separable (n : Nat) (ua : Nat → Nat → Int32) (p0 : Int32) (p1 : Int32) (p2 : Int32) (P : Int32 → Prop) (PX : String → Prop) : Prop :=
  wp_X3_needMode p0 11 (wp_X3_needByte p1 (wp_X3_needByte p2 (wp_X1_ofBytes p0 p1 p2 (fun r1 => P r1)) PX) PX) PX
abbrev rm_X3_separable : Room := { frames := 7, cells := 3, slots := 18, locals := 111 }
set_option maxHeartbeats 4000000 in
set_option maxRecDepth 100000 in
theorem c_X3_separable (l : Launch) (hl0 : l.stackTraces = false) (dC : Nat → ClassId) (dI : Nat → Nat → Nat) (cA : Nat → ClassId) (sa : Nat → Nat) (ga : Nat → Nat) (gl : Nat → Nat → Nat) (n : Nat) (ua : Nat → Nat → Int32) (p0 : Int32) (p1 : Int32) (p2 : Int32) (P : Int32 → Prop) (PX : String → Prop) (hw : wp_X3_separable n ua p0 p1 p2 P PX) : vx_Met l yX3_separable wX3_separable rm_X3_separable (xP1t dC dI cA sa (w_br ga gl cA n ua) [.ref (ga 0), .int p0, .int p1, .int p2]) (va_Qi (fun r (_ : Unit) => P r) (fun _ _ => True) (fun _ => False)) (xX PX) 3 18 (fun _ => False) := by
  refine vx_ofW (cc := cX3_separable) (maxL := 4) (ret := (some .int)) (by decide) rfl ?_
  intro p e s m args below meth c s₁ B hml hnoex hv
  obtain ⟨hargs, hP, hK, hE⟩ := hv
  have hx := B.exec
  have hb := B.bytes
  have hr := B.returns
  have hts := atoms_spec (ws := wX3_separable) B.pre
  have hown : s.vm.findClass RX3 = some m.cls := findClass_of_methodNamed B.named
  have hlocks := B.notSynchronized
  have hS : va_S (fun _ => False) s.heap s.heap [] := va_S.rf
  have hl := lv_entry ([.ref (ga 0), .int p0, .int p1, .int p2]) (n := 4) (Nat.le_of_ble_eq_true rfl)
  rw [show entryFrame m args 4 = entryFrame m (([.ref (ga 0), .int p0, .int p1, .int p2] : List Value).toArray) 4 from by rw [hargs], lg_entry_eq]
  generalize (lg_sl ([.ref (ga 0), .int p0, .int p1, .int p2]) ++ List.replicate (4 - (lg_sl ([.ref (ga 0), .int p0, .int p1, .int p2])).length) Slot.unset).toArray = ls at hl ⊢
  have hl : lv_has ls 4 [(0, .ref (ga 0)), (1, .int p0), (2, .int p1), (3, .int p2)] := hl
  refine lv_iload_n hx hb dX3_separable_0 rfl (lv_at hl 1 rfl) ?_
  refine lv_bipush (v := 11) hx hb dX3_separable_1 (by decide) ?_
  refine vx_callv (vx_runS (As := [.int p0, .int 11]) (rest := []) ⟨hx, hb, hml, hown, hts⟩ (c_X3_needMode l hl0 sa p0 11 _ _ hw) (gcS 2 hts m291 m289 m290 m21 rfl rfl (by decide +kernel) ⟨Nat.le_of_ble_eq_true rfl, Nat.le_of_ble_eq_true rfl⟩) ⟨xbl0t, fun U hU hW => ⟨rfl, xEmv hE hW hS hU⟩⟩ rfl rfl hl.1 rfl (lv_room (Nat.le_of_ble_eq_true rfl)) dX3_separable_3 ⟨Nat.le_of_ble_eq_true rfl, Nat.le_of_ble_eq_true rfl⟩) hS (fun q _ h => h.elim) (fun q h => h.elim) (fun q _ h => h.elim) (fun E ce q9 u t H1 locs1 ht hvm hpx hB hz1 hk1 hS1 hce hcv hcl => ?_) (fun u t H1 locs ht hvm hw hB hz1 hk1 hS => ?_)
  · subst hB
    exact vx_out (fun x hx9 => (hnoex x hx9).elim) hlocks hce hcv hcl (fun t ht2 hvm2 => ⟨_, hpx, rfl, hS1.F ht2⟩) (fun z hz => (hS1.2.2 z hz).elim) (Nat.le_of_ble_eq_true rfl) (Nat.le_of_ble_eq_true rfl)
  replace hP := xkeep hP hk1
  clear ht hB hz1 hk1
  generalize H1 = H at hP hS ⊢
  refine lv_iload_n hx hb dX3_separable_6 rfl (lv_at hl 2 rfl) ?_
  refine vx_callv (vx_runS (As := [.int p1]) (rest := []) ⟨hx, hb, hml, hown, hts⟩ (c_X3_needByte l hl0 sa p1 _ _ hw) (gcS 1 hts m295 m293 m294 m21 rfl rfl (by decide +kernel) ⟨Nat.le_of_ble_eq_true rfl, Nat.le_of_ble_eq_true rfl⟩) ⟨xbl0t, fun U hU hW => ⟨rfl, xEmv hE hW hS hU⟩⟩ rfl rfl hl.1 rfl (lv_room (Nat.le_of_ble_eq_true rfl)) dX3_separable_7 ⟨Nat.le_of_ble_eq_true rfl, Nat.le_of_ble_eq_true rfl⟩) hS (fun q _ h => h.elim) (fun q h => h.elim) (fun q _ h => h.elim) (fun E ce q9 u t H1 locs1 ht hvm hpx hB hz1 hk1 hS1 hce hcv hcl => ?_) (fun u t H1 locs ht hvm hw hB hz1 hk1 hS => ?_)
  · subst hB
    exact vx_out (fun x hx9 => (hnoex x hx9).elim) hlocks hce hcv hcl (fun t ht2 hvm2 => ⟨_, hpx, rfl, hS1.F ht2⟩) (fun z hz => (hS1.2.2 z hz).elim) (Nat.le_of_ble_eq_true rfl) (Nat.le_of_ble_eq_true rfl)
  replace hP := xkeep hP hk1
  clear ht hB hz1 hk1
  generalize H1 = H at hP hS ⊢
  refine lv_iload_n hx hb dX3_separable_10 rfl (lv_at hl 3 rfl) ?_
  refine vx_callv (vx_runS (As := [.int p2]) (rest := []) ⟨hx, hb, hml, hown, hts⟩ (c_X3_needByte l hl0 sa p2 _ _ hw) (gcS 1 hts m295 m293 m294 m21 rfl rfl (by decide +kernel) ⟨Nat.le_of_ble_eq_true rfl, Nat.le_of_ble_eq_true rfl⟩) ⟨xbl0t, fun U hU hW => ⟨rfl, xEmv hE hW hS hU⟩⟩ rfl rfl hl.1 rfl (lv_room (Nat.le_of_ble_eq_true rfl)) dX3_separable_11 ⟨Nat.le_of_ble_eq_true rfl, Nat.le_of_ble_eq_true rfl⟩) hS (fun q _ h => h.elim) (fun q h => h.elim) (fun q _ h => h.elim) (fun E ce q9 u t H1 locs1 ht hvm hpx hB hz1 hk1 hS1 hce hcv hcl => ?_) (fun u t H1 locs ht hvm hw hB hz1 hk1 hS => ?_)
  · subst hB
    exact vx_out (fun x hx9 => (hnoex x hx9).elim) hlocks hce hcv hcl (fun t ht2 hvm2 => ⟨_, hpx, rfl, hS1.F ht2⟩) (fun z hz => (hS1.2.2 z hz).elim) (Nat.le_of_ble_eq_true rfl) (Nat.le_of_ble_eq_true rfl)
  replace hP := xkeep hP hk1
  clear ht hB hz1 hk1
  generalize H1 = H at hP hS ⊢
  refine lv_iload_n hx hb dX3_separable_14 rfl (lv_at hl 1 rfl) ?_
  refine lv_iload_n hx hb dX3_separable_15 rfl (lv_at hl 2 rfl) ?_
  refine lv_iload_n hx hb dX3_separable_16 rfl (lv_at hl 3 rfl) ?_
  refine vp_callSi (va_Run.run (va_runS (As := [.int p0, .int p1, .int p2]) (rest := []) ⟨hx, hb, hml, hown, hts⟩ (c_X1_ofBytes l p0 p1 p2 _ hw) (gcS 3 hts m375 m508 m374 m32 rfl rfl (by decide +kernel) ⟨Nat.le_of_ble_eq_true rfl, Nat.le_of_ble_eq_true rfl⟩) ⟨xbl0, fun U hU hW => ⟨rfl, trivial⟩⟩ rfl rfl hl.1 rfl (lv_room (Nat.le_of_ble_eq_true rfl)) dX3_separable_17 ⟨Nat.le_of_ble_eq_true rfl, Nat.le_of_ble_eq_true rfl⟩)) (fun r1 hw => ?_)
  refine vx_ret ?_
  exact W.iret hx hb hr (fun t ht hW => ⟨⟨_, (), rfl, hw, trivial⟩, hS.F ht⟩) hS.2.2 dX3_separable_20
abbrev wX3_blend : List Cond := Cond.code yX3_blend cX3_blend 4 (some .int) :: gG
def wp_X3_blend (n : Nat) (ua : Nat → Nat → Int32) (p0 : Int32) (p1 : Int32) (p2 : Int32) (P : Int32 → Prop) (PX : String → Prop) : Prop :=
  wp_X3_needMode p0 15 (wp_X3_needColour p1 (wp_X3_needColour p2 (wp_X1_ofColours p0 p1 p2 (fun r1 => P r1)) PX) PX) PX
abbrev rm_X3_blend : Room := { frames := 7, cells := 3, slots := 18, locals := 115 }
set_option maxHeartbeats 4000000 in
set_option maxRecDepth 100000 in
theorem c_X3_blend (l : Launch) (hl0 : l.stackTraces = false) (dC : Nat → ClassId) (dI : Nat → Nat → Nat) (cA : Nat → ClassId) (sa : Nat → Nat) (ga : Nat → Nat) (gl : Nat → Nat → Nat) (n : Nat) (ua : Nat → Nat → Int32) (p0 : Int32) (p1 : Int32) (p2 : Int32) (P : Int32 → Prop) (PX : String → Prop) (hw : wp_X3_blend n ua p0 p1 p2 P PX) : vx_Met l yX3_blend wX3_blend rm_X3_blend (xP1t dC dI cA sa (w_br ga gl cA n ua) [.ref (ga 0), .int p0, .int p1, .int p2]) (va_Qi (fun r (_ : Unit) => P r) (fun _ _ => True) (fun _ => False)) (xX PX) 3 18 (fun _ => False) := by
  refine vx_ofW (cc := cX3_blend) (maxL := 4) (ret := (some .int)) (by decide) rfl ?_
  intro p e s m args below meth c s₁ B hml hnoex hv
  obtain ⟨hargs, hP, hK, hE⟩ := hv
  have hx := B.exec
  have hb := B.bytes
  have hr := B.returns
  have hts := atoms_spec (ws := wX3_blend) B.pre
  have hown : s.vm.findClass RX3 = some m.cls := findClass_of_methodNamed B.named
  have hlocks := B.notSynchronized
  have hS : va_S (fun _ => False) s.heap s.heap [] := va_S.rf
  have hl := lv_entry ([.ref (ga 0), .int p0, .int p1, .int p2]) (n := 4) (Nat.le_of_ble_eq_true rfl)
  rw [show entryFrame m args 4 = entryFrame m (([.ref (ga 0), .int p0, .int p1, .int p2] : List Value).toArray) 4 from by rw [hargs], lg_entry_eq]
  generalize (lg_sl ([.ref (ga 0), .int p0, .int p1, .int p2]) ++ List.replicate (4 - (lg_sl ([.ref (ga 0), .int p0, .int p1, .int p2])).length) Slot.unset).toArray = ls at hl ⊢
  have hl : lv_has ls 4 [(0, .ref (ga 0)), (1, .int p0), (2, .int p1), (3, .int p2)] := hl
  refine lv_iload_n hx hb dX3_blend_0 rfl (lv_at hl 1 rfl) ?_
  refine lv_bipush (v := 15) hx hb dX3_blend_1 (by decide) ?_
  refine vx_callv (vx_runS (As := [.int p0, .int 15]) (rest := []) ⟨hx, hb, hml, hown, hts⟩ (c_X3_needMode l hl0 sa p0 15 _ _ hw) (gcS 2 hts m291 m289 m290 m21 rfl rfl (by decide +kernel) ⟨Nat.le_of_ble_eq_true rfl, Nat.le_of_ble_eq_true rfl⟩) ⟨xbl0t, fun U hU hW => ⟨rfl, xEmv hE hW hS hU⟩⟩ rfl rfl hl.1 rfl (lv_room (Nat.le_of_ble_eq_true rfl)) dX3_blend_3 ⟨Nat.le_of_ble_eq_true rfl, Nat.le_of_ble_eq_true rfl⟩) hS (fun q _ h => h.elim) (fun q h => h.elim) (fun q _ h => h.elim) (fun E ce q9 u t H1 locs1 ht hvm hpx hB hz1 hk1 hS1 hce hcv hcl => ?_) (fun u t H1 locs ht hvm hw hB hz1 hk1 hS => ?_)
  · subst hB
    exact vx_out (fun x hx9 => (hnoex x hx9).elim) hlocks hce hcv hcl (fun t ht2 hvm2 => ⟨_, hpx, rfl, hS1.F ht2⟩) (fun z hz => (hS1.2.2 z hz).elim) (Nat.le_of_ble_eq_true rfl) (Nat.le_of_ble_eq_true rfl)
  replace hP := xkeep hP hk1
  clear ht hB hz1 hk1
  generalize H1 = H at hP hS ⊢
  refine lv_iload_n hx hb dX3_blend_6 rfl (lv_at hl 2 rfl) ?_
  refine vx_callv (vx_runS (As := [.int p1]) (rest := []) ⟨hx, hb, hml, hown, hts⟩ (c_X3_needColour l hl0 sa p1 _ _ hw) (gcS 1 hts m518 m516 m517 m21 rfl rfl (by decide +kernel) ⟨Nat.le_of_ble_eq_true rfl, Nat.le_of_ble_eq_true rfl⟩) ⟨xbl0t, fun U hU hW => ⟨rfl, xEmv hE hW hS hU⟩⟩ rfl rfl hl.1 rfl (lv_room (Nat.le_of_ble_eq_true rfl)) dX3_blend_7 ⟨Nat.le_of_ble_eq_true rfl, Nat.le_of_ble_eq_true rfl⟩) hS (fun q _ h => h.elim) (fun q h => h.elim) (fun q _ h => h.elim) (fun E ce q9 u t H1 locs1 ht hvm hpx hB hz1 hk1 hS1 hce hcv hcl => ?_) (fun u t H1 locs ht hvm hw hB hz1 hk1 hS => ?_)
  · subst hB
    exact vx_out (fun x hx9 => (hnoex x hx9).elim) hlocks hce hcv hcl (fun t ht2 hvm2 => ⟨_, hpx, rfl, hS1.F ht2⟩) (fun z hz => (hS1.2.2 z hz).elim) (Nat.le_of_ble_eq_true rfl) (Nat.le_of_ble_eq_true rfl)
  replace hP := xkeep hP hk1
  clear ht hB hz1 hk1
  generalize H1 = H at hP hS ⊢
  refine lv_iload_n hx hb dX3_blend_10 rfl (lv_at hl 3 rfl) ?_
  refine vx_callv (vx_runS (As := [.int p2]) (rest := []) ⟨hx, hb, hml, hown, hts⟩ (c_X3_needColour l hl0 sa p2 _ _ hw) (gcS 1 hts m518 m516 m517 m21 rfl rfl (by decide +kernel) ⟨Nat.le_of_ble_eq_true rfl, Nat.le_of_ble_eq_true rfl⟩) ⟨xbl0t, fun U hU hW => ⟨rfl, xEmv hE hW hS hU⟩⟩ rfl rfl hl.1 rfl (lv_room (Nat.le_of_ble_eq_true rfl)) dX3_blend_11 ⟨Nat.le_of_ble_eq_true rfl, Nat.le_of_ble_eq_true rfl⟩) hS (fun q _ h => h.elim) (fun q h => h.elim) (fun q _ h => h.elim) (fun E ce q9 u t H1 locs1 ht hvm hpx hB hz1 hk1 hS1 hce hcv hcl => ?_) (fun u t H1 locs ht hvm hw hB hz1 hk1 hS => ?_)
  · subst hB
    exact vx_out (fun x hx9 => (hnoex x hx9).elim) hlocks hce hcv hcl (fun t ht2 hvm2 => ⟨_, hpx, rfl, hS1.F ht2⟩) (fun z hz => (hS1.2.2 z hz).elim) (Nat.le_of_ble_eq_true rfl) (Nat.le_of_ble_eq_true rfl)
  replace hP := xkeep hP hk1
  clear ht hB hz1 hk1
  generalize H1 = H at hP hS ⊢
  refine lv_iload_n hx hb dX3_blend_14 rfl (lv_at hl 1 rfl) ?_
  refine lv_iload_n hx hb dX3_blend_15 rfl (lv_at hl 2 rfl) ?_
  refine lv_iload_n hx hb dX3_blend_16 rfl (lv_at hl 3 rfl) ?_
  refine vp_callSi (va_Run.run (va_runS (As := [.int p0, .int p1, .int p2]) (rest := []) ⟨hx, hb, hml, hown, hts⟩ (c_X1_ofColours l p0 p1 p2 _ hw) (gcS 3 hts m339 m521 m338 m32 rfl rfl (by decide +kernel) ⟨Nat.le_of_ble_eq_true rfl, Nat.le_of_ble_eq_true rfl⟩) ⟨xbl0, fun U hU hW => ⟨rfl, trivial⟩⟩ rfl rfl hl.1 rfl (lv_room (Nat.le_of_ble_eq_true rfl)) dX3_blend_17 ⟨Nat.le_of_ble_eq_true rfl, Nat.le_of_ble_eq_true rfl⟩)) (fun r1 hw => ?_)
  refine vx_ret ?_
  exact W.iret hx hb hr (fun t ht hW => ⟨⟨_, (), rfl, hw, trivial⟩, hS.F ht⟩) hS.2.2 dX3_blend_20
abbrev wX3_point : List Cond := Cond.code yX3_point cX3_point 4 (some .int) :: gG
def wp_X3_point (n : Nat) (k : Nat) (ua : Nat → Nat → Int32) (ub : Nat → Nat → Int32) (p0 : Int32) (p1 : Int32) (p2 : Int32) (P : Int32 → Prop) (PX : String → Prop) : Prop :=
  wp_X3_needPoint n ua p0 p1 (wp_X3_needBand p2 (wp_X3_here n k ua (wp_X0_colourAt n ub ((p1 * (ua 0 0)) + p0) (fun r2 => wp_X2_bandOf r2 p2 (fun r3 => P r3)))) PX) PX
abbrev rm_X3_point : Room := { frames := 8, cells := 2, slots := 12, locals := 125 }
set_option maxHeartbeats 4000000 in
set_option maxRecDepth 100000 in
theorem c_X3_point (l : Launch) (hl0 : l.stackTraces = false) (dC : Nat → ClassId) (dI : Nat → Nat → Nat) (cA : Nat → ClassId) (sa : Nat → Nat) (ga : Nat → Nat) (gl : Nat → Nat → Nat) (n : Nat) (k : Nat) (ua : Nat → Nat → Int32) (ub : Nat → Nat → Int32) (p0 : Int32) (p1 : Int32) (p2 : Int32) (P : Int32 → Prop) (PX : String → Prop) (hw : wp_X3_point n k ua ub p0 p1 p2 P PX) : vx_Met l yX3_point wX3_point rm_X3_point (xP1t dC dI cA sa (w_br ga gl cA n ua ++ w_ly (gl k) cA n ub) [.ref (ga 0), .int p0, .int p1, .int p2]) (va_Qi (fun r (_ : Unit) => P r) (fun _ _ => True) (fun _ => False)) (xX PX) 2 12 (fun _ => False) := by
  refine vx_ofW (cc := cX3_point) (maxL := 4) (ret := (some .int)) (by decide) rfl ?_
  intro p e s m args below meth c s₁ B hml hnoex hv
  obtain ⟨hargs, hP, hK, hE⟩ := hv
  have hx := B.exec
  have hb := B.bytes
  have hr := B.returns
  have hts := atoms_spec (ws := wX3_point) B.pre
  have hown : s.vm.findClass RX3 = some m.cls := findClass_of_methodNamed B.named
  have hlocks := B.notSynchronized
  have hS : va_S (fun _ => False) s.heap s.heap [] := va_S.rf
  have hl := lv_entry ([.ref (ga 0), .int p0, .int p1, .int p2]) (n := 4) (Nat.le_of_ble_eq_true rfl)
  rw [show entryFrame m args 4 = entryFrame m (([.ref (ga 0), .int p0, .int p1, .int p2] : List Value).toArray) 4 from by rw [hargs], lg_entry_eq]
  generalize (lg_sl ([.ref (ga 0), .int p0, .int p1, .int p2]) ++ List.replicate (4 - (lg_sl ([.ref (ga 0), .int p0, .int p1, .int p2])).length) Slot.unset).toArray = ls at hl ⊢
  have hl : lv_has ls 4 [(0, .ref (ga 0)), (1, .int p0), (2, .int p1), (3, .int p2)] := hl
  refine lv_aload_n hx hb dX3_point_0 rfl (lv_at hl 0 rfl) ?_
  refine lv_iload_n hx hb dX3_point_1 rfl (lv_at hl 1 rfl) ?_
  refine lv_iload_n hx hb dX3_point_2 rfl (lv_at hl 2 rfl) ?_
  have hPc := hP.sub (ws' := (w_br ga gl cA n ua)) [0, 1, 2, 3] rfl
  refine vx_callv (vx_runV (As := [.int p0, .int p1]) (rest := []) ⟨hx, hb, hml, hown, hts⟩ (c_X3_needPoint l hl0 dC dI cA sa ga gl n ua p0 p1 _ _ hw) (gcV 2 hts m460 m457 m459 m7 m21 rfl rfl (by decide +kernel) ⟨Nat.le_of_ble_eq_true rfl, Nat.le_of_ble_eq_true rfl⟩) ⟨xbl1t, va_recv hK hPc (ci := 2) (q0 := 0) rfl rfl, fun U hU hW => ⟨rfl, by rw [hU]; exact hPc, va_K.moved hW.alike hK, xEmv hE hW hS hU⟩⟩ rfl rfl hl.1 rfl (lv_room (Nat.le_of_ble_eq_true rfl)) dX3_point_3 ⟨Nat.le_of_ble_eq_true rfl, Nat.le_of_ble_eq_true rfl⟩) hS (fun q _ h => h.elim) (fun q h => h.elim) (fun q _ h => h.elim) (fun E ce q9 u t H1 locs1 ht hvm hpx hB hz1 hk1 hS1 hce hcv hcl => ?_) (fun u t H1 locs ht hvm hw hB hz1 hk1 hS => ?_)
  · subst hB
    exact vx_out (fun x hx9 => (hnoex x hx9).elim) hlocks hce hcv hcl (fun t ht2 hvm2 => ⟨_, hpx, rfl, hS1.F ht2⟩) (fun z hz => (hS1.2.2 z hz).elim) (Nat.le_of_ble_eq_true rfl) (Nat.le_of_ble_eq_true rfl)
  replace hP := xkeep hP hk1
  clear ht hB hz1 hk1 hPc
  generalize H1 = H at hP hS ⊢
  refine lv_iload_n hx hb dX3_point_6 rfl (lv_at hl 3 rfl) ?_
  refine vx_callv (vx_runS (As := [.int p2]) (rest := []) ⟨hx, hb, hml, hown, hts⟩ (c_X3_needBand l hl0 sa p2 _ _ hw) (gcS 1 hts m421 m419 m420 m21 rfl rfl (by decide +kernel) ⟨Nat.le_of_ble_eq_true rfl, Nat.le_of_ble_eq_true rfl⟩) ⟨xbl0t, fun U hU hW => ⟨rfl, xEmv hE hW hS hU⟩⟩ rfl rfl hl.1 rfl (lv_room (Nat.le_of_ble_eq_true rfl)) dX3_point_7 ⟨Nat.le_of_ble_eq_true rfl, Nat.le_of_ble_eq_true rfl⟩) hS (fun q _ h => h.elim) (fun q h => h.elim) (fun q _ h => h.elim) (fun E ce q9 u t H1 locs1 ht hvm hpx hB hz1 hk1 hS1 hce hcv hcl => ?_) (fun u t H1 locs ht hvm hw hB hz1 hk1 hS => ?_)
  · subst hB
    exact vx_out (fun x hx9 => (hnoex x hx9).elim) hlocks hce hcv hcl (fun t ht2 hvm2 => ⟨_, hpx, rfl, hS1.F ht2⟩) (fun z hz => (hS1.2.2 z hz).elim) (Nat.le_of_ble_eq_true rfl) (Nat.le_of_ble_eq_true rfl)
  replace hP := xkeep hP hk1
  clear ht hB hz1 hk1
  generalize H1 = H at hP hS ⊢
  refine lv_aload_n hx hb dX3_point_10 rfl (lv_at hl 0 rfl) ?_
  have hPc := hP.sub (ws' := (w_br ga gl cA n ua)) [0, 1, 2, 3] rfl
  refine xcallSr (va_Run.run (va_runV (As := []) (rest := []) ⟨hx, hb, hml, hown, hts⟩ (c_X3_here l dC dI cA ga gl n k ua _ hw) (gcV 0 hts m242 m239 m241 m2 m21 rfl rfl (by decide +kernel) ⟨Nat.le_of_ble_eq_true rfl, Nat.le_of_ble_eq_true rfl⟩) ⟨xbl1, va_recv hK hPc (ci := 2) (q0 := 0) rfl rfl, fun U hU hW => ⟨rfl, by rw [hU]; exact hPc, va_K.moved hW.alike hK⟩⟩ rfl rfl hl.1 rfl (lv_room (Nat.le_of_ble_eq_true rfl)) dX3_point_11 ⟨Nat.le_of_ble_eq_true rfl, Nat.le_of_ble_eq_true rfl⟩)) (fun r1 hw => ?_)
  obtain ⟨e_r1, hw⟩ := hw
  subst e_r1
  refine lv_iload_n hx hb dX3_point_14 rfl (lv_at hl 2 rfl) ?_
  refine lv_aload_n hx hb dX3_point_15 rfl (lv_at hl 0 rfl) ?_
  refine va_get (D := (dC, dI)) (ci := 2) (v := .int (ua 0 0)) (C := RX3) (T := TX3) (N := 13) hx hb hts iX3 hown hK hP 0 rfl rfl 0 (by decide) (hts _ (xm m79)) (fun _ h9 => h9) rfl dX3_point_16 ?_
  refine lv_imul hx hb dX3_point_19 ?_
  refine lv_iload_n hx hb dX3_point_20 rfl (lv_at hl 1 rfl) ?_
  refine lv_iadd hx hb dX3_point_21 ?_
  have hPc := hP.sub (ws' := (w_ly (gl k) cA n ub)) [4, 5, 6, 7, 8, 9] rfl
  refine vp_callSi (va_Run.run (va_runV (As := [.int ((p1 * (ua 0 0)) + p0)]) (rest := []) ⟨hx, hb, hml, hown, hts⟩ (c_X0_colourAt l dC dI cA (gl k) n ub ((p1 * (ua 0 0)) + p0) _ hw) (gcV 1 hts m250 m483 m248 m249 m23 rfl rfl (by decide +kernel) ⟨Nat.le_of_ble_eq_true rfl, Nat.le_of_ble_eq_true rfl⟩) ⟨xbl1, va_recv hK hPc (ci := 1) (q0 := 0) rfl rfl, fun U hU hW => ⟨rfl, by rw [hU]; exact hPc, va_K.moved hW.alike hK⟩⟩ rfl rfl hl.1 rfl (lv_room (Nat.le_of_ble_eq_true rfl)) dX3_point_22 ⟨Nat.le_of_ble_eq_true rfl, Nat.le_of_ble_eq_true rfl⟩)) (fun r2 hw => ?_)
  refine lv_iload_n hx hb dX3_point_25 rfl (lv_at hl 3 rfl) ?_
  refine vp_callSi (va_Run.run (va_runS (As := [.int r2, .int p2]) (rest := []) ⟨hx, hb, hml, hown, hts⟩ (c_X2_bandOf l r2 p2 _ hw) (gcS 2 hts m320 m484 m319 m30 rfl rfl (by decide +kernel) ⟨Nat.le_of_ble_eq_true rfl, Nat.le_of_ble_eq_true rfl⟩) ⟨xbl0, fun U hU hW => ⟨rfl, trivial⟩⟩ rfl rfl hl.1 rfl (lv_room (Nat.le_of_ble_eq_true rfl)) dX3_point_26 ⟨Nat.le_of_ble_eq_true rfl, Nat.le_of_ble_eq_true rfl⟩)) (fun r3 hw => ?_)
  refine vx_ret ?_
  exact W.iret hx hb hr (fun t ht hW => ⟨⟨_, (), rfl, hw, trivial⟩, hS.F ht⟩) hS.2.2 dX3_point_29
abbrev wX3_alpha : List Cond := Cond.code yX3_alpha cX3_alpha 5 (some .int) :: gG
def wp_X3_alpha (n : Nat) (k : Nat) (ua : Nat → Nat → Int32) (ub : Nat → Nat → Int32) (p0 : Int32) (p1 : Int32) (p2 : Int32) (P : Int32 → Prop) (PX : String → Prop) : Prop :=
  wp_X3_needPoint n ua p0 p1 (∀ v1 : Int32, v1 = ((p1 * (ua 0 0)) + p0) → ((p2 = 0 → wp_X3_here n k ua (wp_X0_ownAlpha n ub v1 (fun r4 => P r4))) ∧
  (¬ p2 = 0 → ((p2 = 1 → wp_X3_here n k ua (wp_X0_shapeAt n ub v1 (fun r7 => P r7))) ∧
  (¬ p2 = 1 → ((p2 = 2 → wp_X3_here n k ua (wp_X0_wholeAlpha n ub v1 (fun r10 => P r10))) ∧
  (¬ p2 = 2 → ((p2 = 3 → (((ua 0 3) = 0 → P 255) ∧
  (¬ (ua 0 3) = 0 → (vp_in v1 n ∧ P (ua 2 v1.toNatClampNeg))))) ∧
  (¬ p2 = 3 → ((p2 = 4 → (vp_in v1 n ∧ P (ua 1 v1.toNatClampNeg))) ∧
  (¬ p2 = 4 → PX "java/lang/IllegalArgumentException"))))))))))) PX
abbrev rm_X3_alpha : Room := { frames := 8, cells := 2, slots := 12, locals := 125 }
set_option maxHeartbeats 4000000 in
set_option maxRecDepth 100000 in
theorem c_X3_alpha (l : Launch) (hl0 : l.stackTraces = false) (dC : Nat → ClassId) (dI : Nat → Nat → Nat) (cA : Nat → ClassId) (sa : Nat → Nat) (ga : Nat → Nat) (gl : Nat → Nat → Nat) (n : Nat) (k : Nat) (ua : Nat → Nat → Int32) (ub : Nat → Nat → Int32) (p0 : Int32) (p1 : Int32) (p2 : Int32) (P : Int32 → Prop) (PX : String → Prop) (hw : wp_X3_alpha n k ua ub p0 p1 p2 P PX) : vx_Met l yX3_alpha wX3_alpha rm_X3_alpha (xP1t dC dI cA sa (w_br ga gl cA n ua ++ w_ly (gl k) cA n ub) [.ref (ga 0), .int p0, .int p1, .int p2]) (va_Qi (fun r (_ : Unit) => P r) (fun _ _ => True) (fun _ => False)) (xX PX) 2 12 (fun _ => False) := by
  refine vx_ofW (cc := cX3_alpha) (maxL := 5) (ret := (some .int)) (by decide) rfl ?_
  intro p e s m args below meth c s₁ B hml hnoex hv
  obtain ⟨hargs, hP, hK, hE⟩ := hv
  have hx := B.exec
  have hb := B.bytes
  have hr := B.returns
  have hts := atoms_spec (ws := wX3_alpha) B.pre
  have hown : s.vm.findClass RX3 = some m.cls := findClass_of_methodNamed B.named
  have hlocks := B.notSynchronized
  have hS : va_S (fun _ => False) s.heap s.heap [] := va_S.rf
  have hl := lv_entry ([.ref (ga 0), .int p0, .int p1, .int p2]) (n := 5) (Nat.le_of_ble_eq_true rfl)
  rw [show entryFrame m args 5 = entryFrame m (([.ref (ga 0), .int p0, .int p1, .int p2] : List Value).toArray) 5 from by rw [hargs], lg_entry_eq]
  generalize (lg_sl ([.ref (ga 0), .int p0, .int p1, .int p2]) ++ List.replicate (5 - (lg_sl ([.ref (ga 0), .int p0, .int p1, .int p2])).length) Slot.unset).toArray = ls at hl ⊢
  have hl : lv_has ls 5 [(0, .ref (ga 0)), (1, .int p0), (2, .int p1), (3, .int p2)] := hl
  refine lv_aload_n hx hb dX3_alpha_0 rfl (lv_at hl 0 rfl) ?_
  refine lv_iload_n hx hb dX3_alpha_1 rfl (lv_at hl 1 rfl) ?_
  refine lv_iload_n hx hb dX3_alpha_2 rfl (lv_at hl 2 rfl) ?_
  have hPc := hP.sub (ws' := (w_br ga gl cA n ua)) [0, 1, 2, 3] rfl
  refine vx_callv (vx_runV (As := [.int p0, .int p1]) (rest := []) ⟨hx, hb, hml, hown, hts⟩ (c_X3_needPoint l hl0 dC dI cA sa ga gl n ua p0 p1 _ _ hw) (gcV 2 hts m460 m457 m459 m7 m21 rfl rfl (by decide +kernel) ⟨Nat.le_of_ble_eq_true rfl, Nat.le_of_ble_eq_true rfl⟩) ⟨xbl1t, va_recv hK hPc (ci := 2) (q0 := 0) rfl rfl, fun U hU hW => ⟨rfl, by rw [hU]; exact hPc, va_K.moved hW.alike hK, xEmv hE hW hS hU⟩⟩ rfl rfl hl.1 rfl (lv_room (Nat.le_of_ble_eq_true rfl)) dX3_alpha_3 ⟨Nat.le_of_ble_eq_true rfl, Nat.le_of_ble_eq_true rfl⟩) hS (fun q _ h => h.elim) (fun q h => h.elim) (fun q _ h => h.elim) (fun E ce q9 u t H1 locs1 ht hvm hpx hB hz1 hk1 hS1 hce hcv hcl => ?_) (fun u t H1 locs ht hvm hw hB hz1 hk1 hS => ?_)
  · subst hB
    exact vx_out (fun x hx9 => (hnoex x hx9).elim) hlocks hce hcv hcl (fun t ht2 hvm2 => ⟨_, hpx, rfl, hS1.F ht2⟩) (fun z hz => (hS1.2.2 z hz).elim) (Nat.le_of_ble_eq_true rfl) (Nat.le_of_ble_eq_true rfl)
  replace hP := xkeep hP hk1
  clear ht hB hz1 hk1 hPc
  generalize H1 = H at hP hS ⊢
  refine lv_iload_n hx hb dX3_alpha_6 rfl (lv_at hl 2 rfl) ?_
  refine lv_aload_n hx hb dX3_alpha_7 rfl (lv_at hl 0 rfl) ?_
  refine va_get (D := (dC, dI)) (ci := 2) (v := .int (ua 0 0)) (C := RX3) (T := TX3) (N := 13) hx hb hts iX3 hown hK hP 0 rfl rfl 0 (by decide) (hts _ (xm m79)) (fun _ h9 => h9) rfl dX3_alpha_8 ?_
  refine lv_imul hx hb dX3_alpha_11 ?_
  refine lv_iload_n hx hb dX3_alpha_12 rfl (lv_at hl 1 rfl) ?_
  refine lv_iadd hx hb dX3_alpha_13 ?_
  refine lv_topi (fun v1 e_v1 => ?_)
  replace hw := hw v1 e_v1
  refine lv_istore (lv' := [(4, .int v1), (0, .ref (ga 0)), (1, .int p0), (2, .int p1), (3, .int p2)]) hx hb dX3_alpha_14 hl (by decide) rfl (fun ls hl => ?_)
  refine lv_iload_n hx hb dX3_alpha_16 rfl (lv_at hl 4 rfl) ?_
  by_cases c2 : p2 = 0
  · replace hw := And.left hw c2
    refine lv_tableIn (tgt := 52) hx hb dX3_alpha_17 (by rw [c2]; decide) (by rw [c2]; decide) (by rw [c2]; rfl) (by decide) ?_
    refine lv_aload_n hx hb dX3_alpha_52 rfl (lv_at hl 1 rfl) ?_
    have hPc := hP.sub (ws' := (w_br ga gl cA n ua)) [0, 1, 2, 3] rfl
    refine xcallSr (va_Run.run (va_runV (As := []) (rest := []) ⟨hx, hb, hml, hown, hts⟩ (c_X3_here l dC dI cA ga gl n k ua _ hw) (gcV 0 hts m242 m239 m241 m2 m21 rfl rfl (by decide +kernel) ⟨Nat.le_of_ble_eq_true rfl, Nat.le_of_ble_eq_true rfl⟩) ⟨xbl1, va_recv hK hPc (ci := 2) (q0 := 0) rfl rfl, fun U hU hW => ⟨rfl, by rw [hU]; exact hPc, va_K.moved hW.alike hK⟩⟩ rfl rfl hl.1 rfl (lv_room (Nat.le_of_ble_eq_true rfl)) dX3_alpha_53 ⟨Nat.le_of_ble_eq_true rfl, Nat.le_of_ble_eq_true rfl⟩)) (fun r3 hw => ?_)
    obtain ⟨e_r3, hw⟩ := hw
    subst e_r3
    refine lv_iload hx hb dX3_alpha_56 (lv_at hl 0 rfl) ?_
    have hPc := hP.sub (ws' := (w_ly (gl k) cA n ub)) [4, 5, 6, 7, 8, 9] rfl
    refine vp_callSi (va_Run.run (va_runV (As := [.int v1]) (rest := []) ⟨hx, hb, hml, hown, hts⟩ (c_X0_ownAlpha l dC dI cA (gl k) n ub v1 _ hw) (gcV 1 hts m308 m305 m306 m307 m23 rfl rfl (by decide +kernel) ⟨Nat.le_of_ble_eq_true rfl, Nat.le_of_ble_eq_true rfl⟩) ⟨xbl1, va_recv hK hPc (ci := 1) (q0 := 0) rfl rfl, fun U hU hW => ⟨rfl, by rw [hU]; exact hPc, va_K.moved hW.alike hK⟩⟩ rfl rfl hl.1 rfl (lv_room (Nat.le_of_ble_eq_true rfl)) dX3_alpha_58 ⟨Nat.le_of_ble_eq_true rfl, Nat.le_of_ble_eq_true rfl⟩)) (fun r4 hw => ?_)
    refine W.widen (k := 2) (n := 12) (by decide) (by decide) ?_
    refine vx_ret ?_
    exact W.iret hx hb hr (fun t ht hW => ⟨⟨_, (), rfl, hw, trivial⟩, hS.F ht⟩) hS.2.2 dX3_alpha_61
  replace hw := And.right hw c2
  by_cases c5 : p2 = 1
  · replace hw := And.left hw c5
    refine lv_tableIn (tgt := 62) hx hb dX3_alpha_17 (by rw [c5]; decide) (by rw [c5]; decide) (by rw [c5]; rfl) (by decide) ?_
    refine lv_aload_n hx hb dX3_alpha_62 rfl (lv_at hl 1 rfl) ?_
    have hPc := hP.sub (ws' := (w_br ga gl cA n ua)) [0, 1, 2, 3] rfl
    refine xcallSr (va_Run.run (va_runV (As := []) (rest := []) ⟨hx, hb, hml, hown, hts⟩ (c_X3_here l dC dI cA ga gl n k ua _ hw) (gcV 0 hts m242 m239 m241 m2 m21 rfl rfl (by decide +kernel) ⟨Nat.le_of_ble_eq_true rfl, Nat.le_of_ble_eq_true rfl⟩) ⟨xbl1, va_recv hK hPc (ci := 2) (q0 := 0) rfl rfl, fun U hU hW => ⟨rfl, by rw [hU]; exact hPc, va_K.moved hW.alike hK⟩⟩ rfl rfl hl.1 rfl (lv_room (Nat.le_of_ble_eq_true rfl)) dX3_alpha_63 ⟨Nat.le_of_ble_eq_true rfl, Nat.le_of_ble_eq_true rfl⟩)) (fun r6 hw => ?_)
    obtain ⟨e_r6, hw⟩ := hw
    subst e_r6
    refine lv_iload hx hb dX3_alpha_66 (lv_at hl 0 rfl) ?_
    have hPc := hP.sub (ws' := (w_ly (gl k) cA n ub)) [4, 5, 6, 7, 8, 9] rfl
    refine vp_callSi (va_Run.run (va_runV (As := [.int v1]) (rest := []) ⟨hx, hb, hml, hown, hts⟩ (c_X0_shapeAt l dC dI cA (gl k) n ub v1 _ hw) (gcV 1 hts m304 m301 m302 m303 m23 rfl rfl (by decide +kernel) ⟨Nat.le_of_ble_eq_true rfl, Nat.le_of_ble_eq_true rfl⟩) ⟨xbl1, va_recv hK hPc (ci := 1) (q0 := 0) rfl rfl, fun U hU hW => ⟨rfl, by rw [hU]; exact hPc, va_K.moved hW.alike hK⟩⟩ rfl rfl hl.1 rfl (lv_room (Nat.le_of_ble_eq_true rfl)) dX3_alpha_68 ⟨Nat.le_of_ble_eq_true rfl, Nat.le_of_ble_eq_true rfl⟩)) (fun r7 hw => ?_)
    refine W.widen (k := 2) (n := 12) (by decide) (by decide) ?_
    refine vx_ret ?_
    exact W.iret hx hb hr (fun t ht hW => ⟨⟨_, (), rfl, hw, trivial⟩, hS.F ht⟩) hS.2.2 dX3_alpha_71
  replace hw := And.right hw c5
  by_cases c8 : p2 = 2
  · replace hw := And.left hw c8
    refine lv_tableIn (tgt := 72) hx hb dX3_alpha_17 (by rw [c8]; decide) (by rw [c8]; decide) (by rw [c8]; rfl) (by decide) ?_
    refine lv_aload_n hx hb dX3_alpha_72 rfl (lv_at hl 1 rfl) ?_
    have hPc := hP.sub (ws' := (w_br ga gl cA n ua)) [0, 1, 2, 3] rfl
    refine xcallSr (va_Run.run (va_runV (As := []) (rest := []) ⟨hx, hb, hml, hown, hts⟩ (c_X3_here l dC dI cA ga gl n k ua _ hw) (gcV 0 hts m242 m239 m241 m2 m21 rfl rfl (by decide +kernel) ⟨Nat.le_of_ble_eq_true rfl, Nat.le_of_ble_eq_true rfl⟩) ⟨xbl1, va_recv hK hPc (ci := 2) (q0 := 0) rfl rfl, fun U hU hW => ⟨rfl, by rw [hU]; exact hPc, va_K.moved hW.alike hK⟩⟩ rfl rfl hl.1 rfl (lv_room (Nat.le_of_ble_eq_true rfl)) dX3_alpha_73 ⟨Nat.le_of_ble_eq_true rfl, Nat.le_of_ble_eq_true rfl⟩)) (fun r9 hw => ?_)
    obtain ⟨e_r9, hw⟩ := hw
    subst e_r9
    refine lv_iload hx hb dX3_alpha_76 (lv_at hl 0 rfl) ?_
    have hPc := hP.sub (ws' := (w_ly (gl k) cA n ub)) [4, 5, 6, 7, 8, 9] rfl
    refine vp_callSi (va_Run.run (va_runV (As := [.int v1]) (rest := []) ⟨hx, hb, hml, hown, hts⟩ (c_X0_wholeAlpha l dC dI cA (gl k) n ub v1 _ hw) (gcV 1 hts m254 m492 m252 m253 m23 rfl rfl (by decide +kernel) ⟨Nat.le_of_ble_eq_true rfl, Nat.le_of_ble_eq_true rfl⟩) ⟨xbl1, va_recv hK hPc (ci := 1) (q0 := 0) rfl rfl, fun U hU hW => ⟨rfl, by rw [hU]; exact hPc, va_K.moved hW.alike hK⟩⟩ rfl rfl hl.1 rfl (lv_room (Nat.le_of_ble_eq_true rfl)) dX3_alpha_78 ⟨Nat.le_of_ble_eq_true rfl, Nat.le_of_ble_eq_true rfl⟩)) (fun r10 hw => ?_)
    refine W.widen (k := 2) (n := 12) (by decide) (by decide) ?_
    refine vx_ret ?_
    exact W.iret hx hb hr (fun t ht hW => ⟨⟨_, (), rfl, hw, trivial⟩, hS.F ht⟩) hS.2.2 dX3_alpha_81
  replace hw := And.right hw c8
  by_cases c11 : p2 = 3
  · replace hw := And.left hw c11
    refine lv_tableIn (tgt := 82) hx hb dX3_alpha_17 (by rw [c11]; decide) (by rw [c11]; decide) (by rw [c11]; rfl) (by decide) ?_
    refine lv_aload_n hx hb dX3_alpha_82 rfl (lv_at hl 1 rfl) ?_
    refine va_get (D := (dC, dI)) (ci := 2) (v := .int (ua 0 3)) (C := RX3) (T := TX3) (N := 13) hx hb hts iX3 hown hK hP 0 rfl rfl 6 (by decide) (hts _ (xm m85)) (fun _ h9 => h9) rfl dX3_alpha_83 ?_
    refine lv_if_eq (tgt := 99) hx hb dX3_alpha_86 (by decide) (fun c12 => ?_) (fun c12 => ?_)
    · replace hw := And.left hw c12
      refine lv_sipush (v := 255) hx hb dX3_alpha_99 (by decide) ?_
      refine W.widen (k := 2) (n := 12) (by decide) (by decide) ?_
      refine vx_ret ?_
      exact W.iret hx hb hr (fun t ht hW => ⟨⟨_, (), rfl, hw, trivial⟩, hS.F ht⟩) hS.2.2 dX3_alpha_102
    · replace hw := And.right hw c12
      refine lv_aload_n hx hb dX3_alpha_89 rfl (lv_at hl 1 rfl) ?_
      refine va_get (D := (dC, dI)) (ci := 2) (v := .ref (ga 2)) (C := RX3) (T := TX3) (N := 13) hx hb hts iX3 hown hK hP 0 rfl rfl 4 (by decide) (hts _ (xm m83)) (fun _ h9 => h9) rfl dX3_alpha_90 ?_
      refine lv_iload hx hb dX3_alpha_93 (lv_at hl 0 rfl) ?_
      refine va_iald hx hb hK hP 2 0 rfl rfl (And.left hw) dX3_alpha_95 ?_
      replace hw := And.right hw
      refine lv_goto (tgt := 102) hx hb dX3_alpha_96 (by decide) ?_
      refine W.widen (k := 2) (n := 12) (by decide) (by decide) ?_
      refine vx_ret ?_
      exact W.iret hx hb hr (fun t ht hW => ⟨⟨_, (), rfl, hw, trivial⟩, hS.F ht⟩) hS.2.2 dX3_alpha_102
  replace hw := And.right hw c11
  by_cases c13 : p2 = 4
  · replace hw := And.left hw c13
    refine lv_tableIn (tgt := 103) hx hb dX3_alpha_17 (by rw [c13]; decide) (by rw [c13]; decide) (by rw [c13]; rfl) (by decide) ?_
    refine lv_aload_n hx hb dX3_alpha_103 rfl (lv_at hl 1 rfl) ?_
    refine va_get (D := (dC, dI)) (ci := 2) (v := .ref (ga 1)) (C := RX3) (T := TX3) (N := 13) hx hb hts iX3 hown hK hP 0 rfl rfl 3 (by decide) (hts _ (xm m82)) (fun _ h9 => h9) rfl dX3_alpha_104 ?_
    refine lv_iload hx hb dX3_alpha_107 (lv_at hl 0 rfl) ?_
    refine va_iald hx hb hK hP 1 0 rfl rfl (And.left hw) dX3_alpha_109 ?_
    replace hw := And.right hw
    refine W.widen (k := 2) (n := 12) (by decide) (by decide) ?_
    refine vx_ret ?_
    exact W.iret hx hb hr (fun t ht hW => ⟨⟨_, (), rfl, hw, trivial⟩, hS.F ht⟩) hS.2.2 dX3_alpha_110
  replace hw := And.right hw c13
  refine lv_tableOut (tgt := 111) hx hb dX3_alpha_17 (xsw0_4 c2 c5 c8 c11 c13) (by decide) ?_
  exact vx_throwS hx hb hl0 (own := RX3) (cls := "java/lang/IllegalArgumentException") (text := "a point has no such alpha") (names := ["java/lang/RuntimeException", "java/lang/Exception"]) hown (by decide +kernel) (by decide +kernel) (hts _ (xm m134)) (hts _ (xm m28)) (hE.2.2.1 9 _ rfl) (xhat tw_IllegalArgumentException_64 hts hE) tw_IllegalArgumentException_64_g hE.1 hE.2.1 hS (hl.1.trans hml.symm) dX3_alpha_111 dX3_alpha_114 dX3_alpha_115 dX3_alpha_117 dX3_alpha_120 (fun x hx9 => (hnoex x hx9).elim) (Nat.le_of_ble_eq_true rfl) (Nat.le_of_ble_eq_true rfl) (Nat.le_of_ble_eq_true rfl) (Nat.le_of_ble_eq_true rfl) hlocks (fun t _ h1 h2 => ⟨_, hw, rfl, xF hS h1 h2⟩) (fun z hz => (hS.2.2 z hz).elim) (Nat.le_of_ble_eq_true rfl) (Nat.le_of_ble_eq_true rfl)
abbrev wX3_paper : List Cond := Cond.code yX3_paper cX3_paper 6 (some .int) :: gG
def wp_X3_paper (n : Nat) (k : Nat) (ua : Nat → Nat → Int32) (ub : Nat → Nat → Int32) (p0 : Int32) (p1 : Int32) (p2 : Int32) (P : Int32 → Prop) (PX : String → Prop) : Prop :=
  wp_X3_needPoint n ua p0 p1 (wp_X3_needBand p2 (∀ v1 : Int32, v1 = ((p1 * (ua 0 0)) + p0) → wp_X3_here n k ua (wp_X0_wholeAlpha n ub v1 (fun r3 => wp_X3_here n k ua (wp_X0_colourAt n ub v1 (fun r5 => wp_X2_bandOf r5 p2 (fun r6 => wp_X2_mul r6 r3 (fun r7 => P ((r7 + 255) - r3)))))))) PX) PX
abbrev rm_X3_paper : Room := { frames := 8, cells := 2, slots := 12, locals := 125 }
set_option maxHeartbeats 4000000 in
set_option maxRecDepth 100000 in
theorem c_X3_paper (l : Launch) (hl0 : l.stackTraces = false) (dC : Nat → ClassId) (dI : Nat → Nat → Nat) (cA : Nat → ClassId) (sa : Nat → Nat) (ga : Nat → Nat) (gl : Nat → Nat → Nat) (n : Nat) (k : Nat) (ua : Nat → Nat → Int32) (ub : Nat → Nat → Int32) (p0 : Int32) (p1 : Int32) (p2 : Int32) (P : Int32 → Prop) (PX : String → Prop) (hw : wp_X3_paper n k ua ub p0 p1 p2 P PX) : vx_Met l yX3_paper wX3_paper rm_X3_paper (xP1t dC dI cA sa (w_br ga gl cA n ua ++ w_ly (gl k) cA n ub) [.ref (ga 0), .int p0, .int p1, .int p2]) (va_Qi (fun r (_ : Unit) => P r) (fun _ _ => True) (fun _ => False)) (xX PX) 2 12 (fun _ => False) := by
  refine vx_ofW (cc := cX3_paper) (maxL := 6) (ret := (some .int)) (by decide) rfl ?_
  intro p e s m args below meth c s₁ B hml hnoex hv
  obtain ⟨hargs, hP, hK, hE⟩ := hv
  have hx := B.exec
  have hb := B.bytes
  have hr := B.returns
  have hts := atoms_spec (ws := wX3_paper) B.pre
  have hown : s.vm.findClass RX3 = some m.cls := findClass_of_methodNamed B.named
  have hlocks := B.notSynchronized
  have hS : va_S (fun _ => False) s.heap s.heap [] := va_S.rf
  have hl := lv_entry ([.ref (ga 0), .int p0, .int p1, .int p2]) (n := 6) (Nat.le_of_ble_eq_true rfl)
  rw [show entryFrame m args 6 = entryFrame m (([.ref (ga 0), .int p0, .int p1, .int p2] : List Value).toArray) 6 from by rw [hargs], lg_entry_eq]
  generalize (lg_sl ([.ref (ga 0), .int p0, .int p1, .int p2]) ++ List.replicate (6 - (lg_sl ([.ref (ga 0), .int p0, .int p1, .int p2])).length) Slot.unset).toArray = ls at hl ⊢
  have hl : lv_has ls 6 [(0, .ref (ga 0)), (1, .int p0), (2, .int p1), (3, .int p2)] := hl
  refine lv_aload_n hx hb dX3_paper_0 rfl (lv_at hl 0 rfl) ?_
  refine lv_iload_n hx hb dX3_paper_1 rfl (lv_at hl 1 rfl) ?_
  refine lv_iload_n hx hb dX3_paper_2 rfl (lv_at hl 2 rfl) ?_
  have hPc := hP.sub (ws' := (w_br ga gl cA n ua)) [0, 1, 2, 3] rfl
  refine vx_callv (vx_runV (As := [.int p0, .int p1]) (rest := []) ⟨hx, hb, hml, hown, hts⟩ (c_X3_needPoint l hl0 dC dI cA sa ga gl n ua p0 p1 _ _ hw) (gcV 2 hts m460 m457 m459 m7 m21 rfl rfl (by decide +kernel) ⟨Nat.le_of_ble_eq_true rfl, Nat.le_of_ble_eq_true rfl⟩) ⟨xbl1t, va_recv hK hPc (ci := 2) (q0 := 0) rfl rfl, fun U hU hW => ⟨rfl, by rw [hU]; exact hPc, va_K.moved hW.alike hK, xEmv hE hW hS hU⟩⟩ rfl rfl hl.1 rfl (lv_room (Nat.le_of_ble_eq_true rfl)) dX3_paper_3 ⟨Nat.le_of_ble_eq_true rfl, Nat.le_of_ble_eq_true rfl⟩) hS (fun q _ h => h.elim) (fun q h => h.elim) (fun q _ h => h.elim) (fun E ce q9 u t H1 locs1 ht hvm hpx hB hz1 hk1 hS1 hce hcv hcl => ?_) (fun u t H1 locs ht hvm hw hB hz1 hk1 hS => ?_)
  · subst hB
    exact vx_out (fun x hx9 => (hnoex x hx9).elim) hlocks hce hcv hcl (fun t ht2 hvm2 => ⟨_, hpx, rfl, hS1.F ht2⟩) (fun z hz => (hS1.2.2 z hz).elim) (Nat.le_of_ble_eq_true rfl) (Nat.le_of_ble_eq_true rfl)
  replace hP := xkeep hP hk1
  clear ht hB hz1 hk1 hPc
  generalize H1 = H at hP hS ⊢
  refine lv_iload_n hx hb dX3_paper_6 rfl (lv_at hl 3 rfl) ?_
  refine vx_callv (vx_runS (As := [.int p2]) (rest := []) ⟨hx, hb, hml, hown, hts⟩ (c_X3_needBand l hl0 sa p2 _ _ hw) (gcS 1 hts m421 m419 m420 m21 rfl rfl (by decide +kernel) ⟨Nat.le_of_ble_eq_true rfl, Nat.le_of_ble_eq_true rfl⟩) ⟨xbl0t, fun U hU hW => ⟨rfl, xEmv hE hW hS hU⟩⟩ rfl rfl hl.1 rfl (lv_room (Nat.le_of_ble_eq_true rfl)) dX3_paper_7 ⟨Nat.le_of_ble_eq_true rfl, Nat.le_of_ble_eq_true rfl⟩) hS (fun q _ h => h.elim) (fun q h => h.elim) (fun q _ h => h.elim) (fun E ce q9 u t H1 locs1 ht hvm hpx hB hz1 hk1 hS1 hce hcv hcl => ?_) (fun u t H1 locs ht hvm hw hB hz1 hk1 hS => ?_)
  · subst hB
    exact vx_out (fun x hx9 => (hnoex x hx9).elim) hlocks hce hcv hcl (fun t ht2 hvm2 => ⟨_, hpx, rfl, hS1.F ht2⟩) (fun z hz => (hS1.2.2 z hz).elim) (Nat.le_of_ble_eq_true rfl) (Nat.le_of_ble_eq_true rfl)
  replace hP := xkeep hP hk1
  clear ht hB hz1 hk1
  generalize H1 = H at hP hS ⊢
  refine lv_iload_n hx hb dX3_paper_10 rfl (lv_at hl 2 rfl) ?_
  refine lv_aload_n hx hb dX3_paper_11 rfl (lv_at hl 0 rfl) ?_
  refine va_get (D := (dC, dI)) (ci := 2) (v := .int (ua 0 0)) (C := RX3) (T := TX3) (N := 13) hx hb hts iX3 hown hK hP 0 rfl rfl 0 (by decide) (hts _ (xm m79)) (fun _ h9 => h9) rfl dX3_paper_12 ?_
  refine lv_imul hx hb dX3_paper_15 ?_
  refine lv_iload_n hx hb dX3_paper_16 rfl (lv_at hl 1 rfl) ?_
  refine lv_iadd hx hb dX3_paper_17 ?_
  refine lv_topi (fun v1 e_v1 => ?_)
  replace hw := hw v1 e_v1
  refine lv_istore (lv' := [(4, .int v1), (0, .ref (ga 0)), (1, .int p0), (2, .int p1), (3, .int p2)]) hx hb dX3_paper_18 hl (by decide) rfl (fun ls hl => ?_)
  refine lv_aload_n hx hb dX3_paper_20 rfl (lv_at hl 1 rfl) ?_
  have hPc := hP.sub (ws' := (w_br ga gl cA n ua)) [0, 1, 2, 3] rfl
  refine xcallSr (va_Run.run (va_runV (As := []) (rest := []) ⟨hx, hb, hml, hown, hts⟩ (c_X3_here l dC dI cA ga gl n k ua _ hw) (gcV 0 hts m242 m239 m241 m2 m21 rfl rfl (by decide +kernel) ⟨Nat.le_of_ble_eq_true rfl, Nat.le_of_ble_eq_true rfl⟩) ⟨xbl1, va_recv hK hPc (ci := 2) (q0 := 0) rfl rfl, fun U hU hW => ⟨rfl, by rw [hU]; exact hPc, va_K.moved hW.alike hK⟩⟩ rfl rfl hl.1 rfl (lv_room (Nat.le_of_ble_eq_true rfl)) dX3_paper_21 ⟨Nat.le_of_ble_eq_true rfl, Nat.le_of_ble_eq_true rfl⟩)) (fun r2 hw => ?_)
  obtain ⟨e_r2, hw⟩ := hw
  subst e_r2
  refine lv_iload hx hb dX3_paper_24 (lv_at hl 0 rfl) ?_
  have hPc := hP.sub (ws' := (w_ly (gl k) cA n ub)) [4, 5, 6, 7, 8, 9] rfl
  refine vp_callSi (va_Run.run (va_runV (As := [.int v1]) (rest := []) ⟨hx, hb, hml, hown, hts⟩ (c_X0_wholeAlpha l dC dI cA (gl k) n ub v1 _ hw) (gcV 1 hts m254 m492 m252 m253 m23 rfl rfl (by decide +kernel) ⟨Nat.le_of_ble_eq_true rfl, Nat.le_of_ble_eq_true rfl⟩) ⟨xbl1, va_recv hK hPc (ci := 1) (q0 := 0) rfl rfl, fun U hU hW => ⟨rfl, by rw [hU]; exact hPc, va_K.moved hW.alike hK⟩⟩ rfl rfl hl.1 rfl (lv_room (Nat.le_of_ble_eq_true rfl)) dX3_paper_26 ⟨Nat.le_of_ble_eq_true rfl, Nat.le_of_ble_eq_true rfl⟩)) (fun r3 hw => ?_)
  refine lv_istore (lv' := [(5, .int r3), (4, .int v1), (0, .ref (ga 0)), (1, .int p0), (2, .int p1), (3, .int p2)]) hx hb dX3_paper_29 hl (by decide) rfl (fun ls hl => ?_)
  refine lv_aload_n hx hb dX3_paper_31 rfl (lv_at hl 2 rfl) ?_
  have hPc := hP.sub (ws' := (w_br ga gl cA n ua)) [0, 1, 2, 3] rfl
  refine xcallSr (va_Run.run (va_runV (As := []) (rest := []) ⟨hx, hb, hml, hown, hts⟩ (c_X3_here l dC dI cA ga gl n k ua _ hw) (gcV 0 hts m242 m239 m241 m2 m21 rfl rfl (by decide +kernel) ⟨Nat.le_of_ble_eq_true rfl, Nat.le_of_ble_eq_true rfl⟩) ⟨xbl1, va_recv hK hPc (ci := 2) (q0 := 0) rfl rfl, fun U hU hW => ⟨rfl, by rw [hU]; exact hPc, va_K.moved hW.alike hK⟩⟩ rfl rfl hl.1 rfl (lv_room (Nat.le_of_ble_eq_true rfl)) dX3_paper_32 ⟨Nat.le_of_ble_eq_true rfl, Nat.le_of_ble_eq_true rfl⟩)) (fun r4 hw => ?_)
  obtain ⟨e_r4, hw⟩ := hw
  subst e_r4
  refine lv_iload hx hb dX3_paper_35 (lv_at hl 1 rfl) ?_
  have hPc := hP.sub (ws' := (w_ly (gl k) cA n ub)) [4, 5, 6, 7, 8, 9] rfl
  refine vp_callSi (va_Run.run (va_runV (As := [.int v1]) (rest := []) ⟨hx, hb, hml, hown, hts⟩ (c_X0_colourAt l dC dI cA (gl k) n ub v1 _ hw) (gcV 1 hts m250 m483 m248 m249 m23 rfl rfl (by decide +kernel) ⟨Nat.le_of_ble_eq_true rfl, Nat.le_of_ble_eq_true rfl⟩) ⟨xbl1, va_recv hK hPc (ci := 1) (q0 := 0) rfl rfl, fun U hU hW => ⟨rfl, by rw [hU]; exact hPc, va_K.moved hW.alike hK⟩⟩ rfl rfl hl.1 rfl (lv_room (Nat.le_of_ble_eq_true rfl)) dX3_paper_37 ⟨Nat.le_of_ble_eq_true rfl, Nat.le_of_ble_eq_true rfl⟩)) (fun r5 hw => ?_)
  refine lv_iload_n hx hb dX3_paper_40 rfl (lv_at hl 5 rfl) ?_
  refine vp_callSi (va_Run.run (va_runS (As := [.int r5, .int p2]) (rest := []) ⟨hx, hb, hml, hown, hts⟩ (c_X2_bandOf l r5 p2 _ hw) (gcS 2 hts m320 m484 m319 m30 rfl rfl (by decide +kernel) ⟨Nat.le_of_ble_eq_true rfl, Nat.le_of_ble_eq_true rfl⟩) ⟨xbl0, fun U hU hW => ⟨rfl, trivial⟩⟩ rfl rfl hl.1 rfl (lv_room (Nat.le_of_ble_eq_true rfl)) dX3_paper_41 ⟨Nat.le_of_ble_eq_true rfl, Nat.le_of_ble_eq_true rfl⟩)) (fun r6 hw => ?_)
  refine lv_iload hx hb dX3_paper_44 (lv_at hl 0 rfl) ?_
  refine vp_callSi (va_Run.run (va_runS (As := [.int r6, .int r3]) (rest := []) ⟨hx, hb, hml, hown, hts⟩ (c_X2_mul l r6 r3 _ hw) (gcS 2 hts m260 m309 m259 m30 rfl rfl (by decide +kernel) ⟨Nat.le_of_ble_eq_true rfl, Nat.le_of_ble_eq_true rfl⟩) ⟨xbl0, fun U hU hW => ⟨rfl, trivial⟩⟩ rfl rfl hl.1 rfl (lv_room (Nat.le_of_ble_eq_true rfl)) dX3_paper_46 ⟨Nat.le_of_ble_eq_true rfl, Nat.le_of_ble_eq_true rfl⟩)) (fun r7 hw => ?_)
  refine lv_sipush (v := 255) hx hb dX3_paper_49 (by decide) ?_
  refine lv_iadd hx hb dX3_paper_52 ?_
  refine lv_iload hx hb dX3_paper_53 (lv_at hl 0 rfl) ?_
  refine lv_isub hx hb dX3_paper_55 ?_
  refine vx_ret ?_
  exact W.iret hx hb hr (fun t ht hW => ⟨⟨_, (), rfl, hw, trivial⟩, hS.F ht⟩) hS.2.2 dX3_paper_56
