theorem tw_ArrayIndexOutOfBoundsException_170 : ∀ w ∈ vx_atS RX3 170 "java/lang/ArrayIndexOutOfBoundsException" ["java/lang/IndexOutOfBoundsException", "java/lang/RuntimeException", "java/lang/Exception"], w ∈ gG ∨ w ∈ xDC := by decide +kernel
theorem tw_ArrayIndexOutOfBoundsException_170_g : ∀ w ∈ Cond.classLink RX3 166 "java/lang/ArrayIndexOutOfBoundsException" :: Cond.initialized "java/lang/ArrayIndexOutOfBoundsException" :: vx_atS RX3 170 "java/lang/ArrayIndexOutOfBoundsException" ["java/lang/IndexOutOfBoundsException", "java/lang/RuntimeException", "java/lang/Exception"], vx_ot w = true := by decide +kernel
theorem tw_IllegalArgumentException_64 : ∀ w ∈ vx_atS RX3 64 "java/lang/IllegalArgumentException" ["java/lang/RuntimeException", "java/lang/Exception"], w ∈ gG ∨ w ∈ xDC := by decide +kernel
theorem tw_IllegalArgumentException_64_g : ∀ w ∈ Cond.classLink RX3 60 "java/lang/IllegalArgumentException" :: Cond.initialized "java/lang/IllegalArgumentException" :: vx_atS RX3 64 "java/lang/IllegalArgumentException" ["java/lang/RuntimeException", "java/lang/Exception"], vx_ot w = true := by decide +kernel
theorem tw_IllegalStateException_165 : ∀ w ∈ vx_atS RX3 165 "java/lang/IllegalStateException" ["java/lang/RuntimeException", "java/lang/Exception"], w ∈ gG ∨ w ∈ xDC := by decide +kernel
theorem tw_IllegalStateException_165_g : ∀ w ∈ Cond.classLink RX3 161 "java/lang/IllegalStateException" :: Cond.initialized "java/lang/IllegalStateException" :: vx_atS RX3 165 "java/lang/IllegalStateException" ["java/lang/RuntimeException", "java/lang/Exception"], vx_ot w = true := by decide +kernel
theorem tw_UnsupportedOperationException_73 : ∀ w ∈ vx_atS RX3 73 "java/lang/UnsupportedOperationException" ["java/lang/RuntimeException", "java/lang/Exception"], w ∈ gG ∨ w ∈ xDC := by decide +kernel
theorem tw_UnsupportedOperationException_73_g : ∀ w ∈ Cond.classLink RX3 69 "java/lang/UnsupportedOperationException" :: Cond.initialized "java/lang/UnsupportedOperationException" :: vx_atS RX3 73 "java/lang/UnsupportedOperationException" ["java/lang/RuntimeException", "java/lang/Exception"], vx_ot w = true := by decide +kernel
theorem m28 : Cond.initialized "java/lang/IllegalArgumentException" ∈ gG := gG_mk (i := 28) (by decide +kernel) (by decide +kernel)
theorem m31 : Cond.initialized "java/lang/IllegalStateException" ∈ gG := gG_mk (i := 31) (by decide +kernel) (by decide +kernel)
theorem m34 : Cond.initialized "java/lang/ArrayIndexOutOfBoundsException" ∈ gG := gG_mk (i := 34) (by decide +kernel) (by decide +kernel)
theorem m79 : Cond.fieldLink RX3 18 "BlendRows" "width" "I" ∈ gG := gG_mk (i := 79) (by decide +kernel) (by decide +kernel)
theorem m80 : Cond.fieldLink RX3 22 "BlendRows" "height" "I" ∈ gG := gG_mk (i := 80) (by decide +kernel) (by decide +kernel)
theorem m134 : Cond.classLink RX3 60 "java/lang/IllegalArgumentException" ∈ gG := gG_mk (i := 134) (by decide +kernel) (by decide +kernel)
theorem m273 : Cond.classLink RX3 161 "java/lang/IllegalStateException" ∈ gG := gG_mk (i := 273) (by decide +kernel) (by decide +kernel)
theorem m422 : Cond.classLink RX3 166 "java/lang/ArrayIndexOutOfBoundsException" ∈ gG := gG_mk (i := 422) (by decide +kernel) (by decide +kernel)
theorem m519 : Cond.constant RX3 175 16777215 ∈ gG := gG_mk (i := 519) (by decide +kernel) (by decide +kernel)
abbrev wX3_needGroup : List Cond := Cond.code yX3_needGroup cX3_needGroup 1 none :: gG
def wp_X3_needGroup (n : Nat) (ua : Nat → Nat → Int32) (P : Prop) (PX : String → Prop) : Prop :=
  ((1 < (ua 0 7) → P) ∧
  (¬ 1 < (ua 0 7) → PX "java/lang/IllegalStateException"))
abbrev rm_X3_needGroup : Room := { frames := 6, cells := 1, slots := 6, locals := 90 }
set_option maxHeartbeats 4000000 in
set_option maxRecDepth 100000 in
theorem c_X3_needGroup (l : Launch) (hl0 : l.stackTraces = false) (dC : Nat → ClassId) (dI : Nat → Nat → Nat) (cA : Nat → ClassId) (sa : Nat → Nat) (ga : Nat → Nat) (gl : Nat → Nat → Nat) (n : Nat) (ua : Nat → Nat → Int32) (P : Prop) (PX : String → Prop) (hw : wp_X3_needGroup n ua P PX) : vx_Met l yX3_needGroup wX3_needGroup rm_X3_needGroup (xP1t dC dI cA sa (w_br ga gl cA n ua) [.ref (ga 0)]) (va_Qv (fun (_ : Unit) => P) (fun _ _ => True) (fun _ => False)) (xX PX) 1 6 (fun _ => False) := by
  refine vx_ofW (cc := cX3_needGroup) (maxL := 1) (ret := none) (by decide) rfl ?_
  intro p e s m args below meth c s₁ B hml hnoex hv
  obtain ⟨hargs, hP, hK, hE⟩ := hv
  have hx := B.exec
  have hb := B.bytes
  have hr := B.returns
  have hts := atoms_spec (ws := wX3_needGroup) B.pre
  have hown : s.vm.findClass RX3 = some m.cls := findClass_of_methodNamed B.named
  have hlocks := B.notSynchronized
  have hS : va_S (fun _ => False) s.heap s.heap [] := va_S.rf
  have hl := lv_entry ([.ref (ga 0)]) (n := 1) (Nat.le_of_ble_eq_true rfl)
  rw [show entryFrame m args 1 = entryFrame m (([.ref (ga 0)] : List Value).toArray) 1 from by rw [hargs], lg_entry_eq]
  generalize (lg_sl ([.ref (ga 0)]) ++ List.replicate (1 - (lg_sl ([.ref (ga 0)])).length) Slot.unset).toArray = ls at hl ⊢
  have hl : lv_has ls 1 [(0, .ref (ga 0))] := hl
  refine lv_aload_n hx hb dX3_needGroup_0 rfl (lv_at hl 0 rfl) ?_
  refine va_get (D := (dC, dI)) (ci := 2) (v := .int (ua 0 7)) (C := RX3) (T := TX3) (N := 13) hx hb hts iX3 hown hK hP 0 rfl rfl 10 (by decide) (hts _ (xm m89)) (fun _ h9 => h9) rfl dX3_needGroup_1 ?_
  refine lv_iconst (v := 1) hx hb dX3_needGroup_4 (by decide) ?_
  refine lv_icmp_gt (tgt := 18) hx hb dX3_needGroup_5 (by decide) (fun c1 => ?_) (fun c1 => ?_)
  · replace hw := And.left hw c1
    refine W.widen (k := 1) (n := 6) (by decide) (by decide) ?_
    refine vx_ret ?_
    exact W.vret hx hb hr (fun t ht hW => ⟨⟨(), rfl, hw, trivial⟩, hS.F ht⟩) hS.2.2 dX3_needGroup_18
  · replace hw := And.right hw c1
    exact vx_throwS hx hb hl0 (own := RX3) (cls := "java/lang/IllegalStateException") (text := "the page never ends") (names := ["java/lang/RuntimeException", "java/lang/Exception"]) hown (by decide +kernel) (by decide +kernel) (hts _ (xm m273)) (hts _ (xm m31)) (hE.2.2.1 3 _ rfl) (xhat tw_IllegalStateException_165 hts hE) tw_IllegalStateException_165_g hE.1 hE.2.1 hS (hl.1.trans hml.symm) dX3_needGroup_8 dX3_needGroup_11 dX3_needGroup_12 dX3_needGroup_14 dX3_needGroup_17 (fun x hx9 => (hnoex x hx9).elim) (Nat.le_of_ble_eq_true rfl) (Nat.le_of_ble_eq_true rfl) (Nat.le_of_ble_eq_true rfl) (Nat.le_of_ble_eq_true rfl) hlocks (fun t _ h1 h2 => ⟨_, hw, rfl, xF hS h1 h2⟩) (fun z hz => (hS.2.2 z hz).elim) (Nat.le_of_ble_eq_true rfl) (Nat.le_of_ble_eq_true rfl)
abbrev wX3_needPoint : List Cond := Cond.code yX3_needPoint cX3_needPoint 3 none :: gG
def wp_X3_needPoint (n : Nat) (ua : Nat → Nat → Int32) (p0 : Int32) (p1 : Int32) (P : Prop) (PX : String → Prop) : Prop :=
  ((p0 < 0 → PX "java/lang/ArrayIndexOutOfBoundsException") ∧
  (¬ p0 < 0 → (((ua 0 0) ≤ p0 → PX "java/lang/ArrayIndexOutOfBoundsException") ∧
  (¬ (ua 0 0) ≤ p0 → ((p1 < 0 → PX "java/lang/ArrayIndexOutOfBoundsException") ∧
  (¬ p1 < 0 → ((p1 < (ua 0 1) → P) ∧
  (¬ p1 < (ua 0 1) → PX "java/lang/ArrayIndexOutOfBoundsException"))))))))
abbrev rm_X3_needPoint : Room := { frames := 7, cells := 1, slots := 6, locals := 103 }
set_option maxHeartbeats 4000000 in
set_option maxRecDepth 100000 in
theorem c_X3_needPoint (l : Launch) (hl0 : l.stackTraces = false) (dC : Nat → ClassId) (dI : Nat → Nat → Nat) (cA : Nat → ClassId) (sa : Nat → Nat) (ga : Nat → Nat) (gl : Nat → Nat → Nat) (n : Nat) (ua : Nat → Nat → Int32) (p0 : Int32) (p1 : Int32) (P : Prop) (PX : String → Prop) (hw : wp_X3_needPoint n ua p0 p1 P PX) : vx_Met l yX3_needPoint wX3_needPoint rm_X3_needPoint (xP1t dC dI cA sa (w_br ga gl cA n ua) [.ref (ga 0), .int p0, .int p1]) (va_Qv (fun (_ : Unit) => P) (fun _ _ => True) (fun _ => False)) (xX PX) 1 6 (fun _ => False) := by
  refine vx_ofW (cc := cX3_needPoint) (maxL := 3) (ret := none) (by decide) rfl ?_
  intro p e s m args below meth c s₁ B hml hnoex hv
  obtain ⟨hargs, hP, hK, hE⟩ := hv
  have hx := B.exec
  have hb := B.bytes
  have hr := B.returns
  have hts := atoms_spec (ws := wX3_needPoint) B.pre
  have hown : s.vm.findClass RX3 = some m.cls := findClass_of_methodNamed B.named
  have hlocks := B.notSynchronized
  have hS : va_S (fun _ => False) s.heap s.heap [] := va_S.rf
  have hl := lv_entry ([.ref (ga 0), .int p0, .int p1]) (n := 3) (Nat.le_of_ble_eq_true rfl)
  rw [show entryFrame m args 3 = entryFrame m (([.ref (ga 0), .int p0, .int p1] : List Value).toArray) 3 from by rw [hargs], lg_entry_eq]
  generalize (lg_sl ([.ref (ga 0), .int p0, .int p1]) ++ List.replicate (3 - (lg_sl ([.ref (ga 0), .int p0, .int p1])).length) Slot.unset).toArray = ls at hl ⊢
  have hl : lv_has ls 3 [(0, .ref (ga 0)), (1, .int p0), (2, .int p1)] := hl
  refine lv_iload_n hx hb dX3_needPoint_0 rfl (lv_at hl 1 rfl) ?_
  refine lv_if_lt (tgt := 24) hx hb dX3_needPoint_1 (by decide) (fun c4 => ?_) (fun c4 => ?_)
  · replace hw := And.left hw c4
    exact vx_throwS hx hb hl0 (own := RX3) (cls := "java/lang/ArrayIndexOutOfBoundsException") (text := "the page has no such point") (names := ["java/lang/IndexOutOfBoundsException", "java/lang/RuntimeException", "java/lang/Exception"]) hown (by decide +kernel) (by decide +kernel) (hts _ (xm m422)) (hts _ (xm m34)) (hE.2.2.1 8 _ rfl) (xhat tw_ArrayIndexOutOfBoundsException_170 hts hE) tw_ArrayIndexOutOfBoundsException_170_g hE.1 hE.2.1 hS (hl.1.trans hml.symm) dX3_needPoint_24 dX3_needPoint_27 dX3_needPoint_28 dX3_needPoint_30 dX3_needPoint_33 (fun x hx9 => (hnoex x hx9).elim) (Nat.le_of_ble_eq_true rfl) (Nat.le_of_ble_eq_true rfl) (Nat.le_of_ble_eq_true rfl) (Nat.le_of_ble_eq_true rfl) hlocks (fun t _ h1 h2 => ⟨_, hw, rfl, xF hS h1 h2⟩) (fun z hz => (hS.2.2 z hz).elim) (Nat.le_of_ble_eq_true rfl) (Nat.le_of_ble_eq_true rfl)
  · replace hw := And.right hw c4
    refine lv_iload_n hx hb dX3_needPoint_4 rfl (lv_at hl 1 rfl) ?_
    refine lv_aload_n hx hb dX3_needPoint_5 rfl (lv_at hl 0 rfl) ?_
    refine va_get (D := (dC, dI)) (ci := 2) (v := .int (ua 0 0)) (C := RX3) (T := TX3) (N := 13) hx hb hts iX3 hown hK hP 0 rfl rfl 0 (by decide) (hts _ (xm m79)) (fun _ h9 => h9) rfl dX3_needPoint_6 ?_
    refine lv_icmp_ge (tgt := 24) hx hb dX3_needPoint_9 (by decide) (fun c3 => ?_) (fun c3 => ?_)
    · replace hw := And.left hw c3
      exact vx_throwS hx hb hl0 (own := RX3) (cls := "java/lang/ArrayIndexOutOfBoundsException") (text := "the page has no such point") (names := ["java/lang/IndexOutOfBoundsException", "java/lang/RuntimeException", "java/lang/Exception"]) hown (by decide +kernel) (by decide +kernel) (hts _ (xm m422)) (hts _ (xm m34)) (hE.2.2.1 8 _ rfl) (xhat tw_ArrayIndexOutOfBoundsException_170 hts hE) tw_ArrayIndexOutOfBoundsException_170_g hE.1 hE.2.1 hS (hl.1.trans hml.symm) dX3_needPoint_24 dX3_needPoint_27 dX3_needPoint_28 dX3_needPoint_30 dX3_needPoint_33 (fun x hx9 => (hnoex x hx9).elim) (Nat.le_of_ble_eq_true rfl) (Nat.le_of_ble_eq_true rfl) (Nat.le_of_ble_eq_true rfl) (Nat.le_of_ble_eq_true rfl) hlocks (fun t _ h1 h2 => ⟨_, hw, rfl, xF hS h1 h2⟩) (fun z hz => (hS.2.2 z hz).elim) (Nat.le_of_ble_eq_true rfl) (Nat.le_of_ble_eq_true rfl)
    · replace hw := And.right hw c3
      refine lv_iload_n hx hb dX3_needPoint_12 rfl (lv_at hl 2 rfl) ?_
      refine lv_if_lt (tgt := 24) hx hb dX3_needPoint_13 (by decide) (fun c2 => ?_) (fun c2 => ?_)
      · replace hw := And.left hw c2
        exact vx_throwS hx hb hl0 (own := RX3) (cls := "java/lang/ArrayIndexOutOfBoundsException") (text := "the page has no such point") (names := ["java/lang/IndexOutOfBoundsException", "java/lang/RuntimeException", "java/lang/Exception"]) hown (by decide +kernel) (by decide +kernel) (hts _ (xm m422)) (hts _ (xm m34)) (hE.2.2.1 8 _ rfl) (xhat tw_ArrayIndexOutOfBoundsException_170 hts hE) tw_ArrayIndexOutOfBoundsException_170_g hE.1 hE.2.1 hS (hl.1.trans hml.symm) dX3_needPoint_24 dX3_needPoint_27 dX3_needPoint_28 dX3_needPoint_30 dX3_needPoint_33 (fun x hx9 => (hnoex x hx9).elim) (Nat.le_of_ble_eq_true rfl) (Nat.le_of_ble_eq_true rfl) (Nat.le_of_ble_eq_true rfl) (Nat.le_of_ble_eq_true rfl) hlocks (fun t _ h1 h2 => ⟨_, hw, rfl, xF hS h1 h2⟩) (fun z hz => (hS.2.2 z hz).elim) (Nat.le_of_ble_eq_true rfl) (Nat.le_of_ble_eq_true rfl)
      · replace hw := And.right hw c2
        refine lv_iload_n hx hb dX3_needPoint_16 rfl (lv_at hl 2 rfl) ?_
        refine lv_aload_n hx hb dX3_needPoint_17 rfl (lv_at hl 0 rfl) ?_
        refine va_get (D := (dC, dI)) (ci := 2) (v := .int (ua 0 1)) (C := RX3) (T := TX3) (N := 13) hx hb hts iX3 hown hK hP 0 rfl rfl 1 (by decide) (hts _ (xm m80)) (fun _ h9 => h9) rfl dX3_needPoint_18 ?_
        refine lv_icmp_lt (tgt := 34) hx hb dX3_needPoint_21 (by decide) (fun c1 => ?_) (fun c1 => ?_)
        · replace hw := And.left hw c1
          refine W.widen (k := 1) (n := 6) (by decide) (by decide) ?_
          refine vx_ret ?_
          exact W.vret hx hb hr (fun t ht hW => ⟨⟨(), rfl, hw, trivial⟩, hS.F ht⟩) hS.2.2 dX3_needPoint_34
        · replace hw := And.right hw c1
          exact vx_throwS hx hb hl0 (own := RX3) (cls := "java/lang/ArrayIndexOutOfBoundsException") (text := "the page has no such point") (names := ["java/lang/IndexOutOfBoundsException", "java/lang/RuntimeException", "java/lang/Exception"]) hown (by decide +kernel) (by decide +kernel) (hts _ (xm m422)) (hts _ (xm m34)) (hE.2.2.1 8 _ rfl) (xhat tw_ArrayIndexOutOfBoundsException_170 hts hE) tw_ArrayIndexOutOfBoundsException_170_g hE.1 hE.2.1 hS (hl.1.trans hml.symm) dX3_needPoint_24 dX3_needPoint_27 dX3_needPoint_28 dX3_needPoint_30 dX3_needPoint_33 (fun x hx9 => (hnoex x hx9).elim) (Nat.le_of_ble_eq_true rfl) (Nat.le_of_ble_eq_true rfl) (Nat.le_of_ble_eq_true rfl) (Nat.le_of_ble_eq_true rfl) hlocks (fun t _ h1 h2 => ⟨_, hw, rfl, xF hS h1 h2⟩) (fun z hz => (hS.2.2 z hz).elim) (Nat.le_of_ble_eq_true rfl) (Nat.le_of_ble_eq_true rfl)
abbrev wX3_needBand : List Cond := Cond.code yX3_needBand cX3_needBand 1 none :: gG
def wp_X3_needBand (p0 : Int32) (P : Prop) (PX : String → Prop) : Prop :=
  ((p0 < 0 → PX "java/lang/ArrayIndexOutOfBoundsException") ∧
  (¬ p0 < 0 → ((p0 < 3 → P) ∧
  (¬ p0 < 3 → PX "java/lang/ArrayIndexOutOfBoundsException"))))
abbrev rm_X3_needBand : Room := { frames := 7, cells := 1, slots := 6, locals := 103 }
set_option maxHeartbeats 4000000 in
set_option maxRecDepth 100000 in
theorem c_X3_needBand (l : Launch) (hl0 : l.stackTraces = false) (sa : Nat → Nat) (p0 : Int32) (P : Prop) (PX : String → Prop) (hw : wp_X3_needBand p0 P PX) : vx_Met l yX3_needBand wX3_needBand rm_X3_needBand (xP0t sa [.int p0]) (va_Qv (fun (_ : Unit) => P) (fun _ _ => True) (fun _ => False)) (xX PX) 1 6 (fun _ => False) := by
  refine vx_ofW (cc := cX3_needBand) (maxL := 1) (ret := none) (by decide) rfl ?_
  intro p e s m args below meth c s₁ B hml hnoex hv
  obtain ⟨hargs, hE⟩ := hv
  have hx := B.exec
  have hb := B.bytes
  have hr := B.returns
  have hts := atoms_spec (ws := wX3_needBand) B.pre
  have hown : s.vm.findClass RX3 = some m.cls := findClass_of_methodNamed B.named
  have hlocks := B.notSynchronized
  have hS : va_S (fun _ => False) s.heap s.heap [] := va_S.rf
  have hl := lv_entry ([.int p0]) (n := 1) (Nat.le_of_ble_eq_true rfl)
  rw [show entryFrame m args 1 = entryFrame m (([.int p0] : List Value).toArray) 1 from by rw [hargs], lg_entry_eq]
  generalize (lg_sl ([.int p0]) ++ List.replicate (1 - (lg_sl ([.int p0])).length) Slot.unset).toArray = ls at hl ⊢
  have hl : lv_has ls 1 [(0, .int p0)] := hl
  refine lv_iload_n hx hb dX3_needBand_0 rfl (lv_at hl 0 rfl) ?_
  refine lv_if_lt (tgt := 9) hx hb dX3_needBand_1 (by decide) (fun c2 => ?_) (fun c2 => ?_)
  · replace hw := And.left hw c2
    exact vx_throwS hx hb hl0 (own := RX3) (cls := "java/lang/ArrayIndexOutOfBoundsException") (text := "a colour has no such band") (names := ["java/lang/IndexOutOfBoundsException", "java/lang/RuntimeException", "java/lang/Exception"]) hown (by decide +kernel) (by decide +kernel) (hts _ (xm m422)) (hts _ (xm m34)) (hE.2.2.1 7 _ rfl) (xhat tw_ArrayIndexOutOfBoundsException_170 hts hE) tw_ArrayIndexOutOfBoundsException_170_g hE.1 hE.2.1 hS (hl.1.trans hml.symm) dX3_needBand_9 dX3_needBand_12 dX3_needBand_13 dX3_needBand_15 dX3_needBand_18 (fun x hx9 => (hnoex x hx9).elim) (Nat.le_of_ble_eq_true rfl) (Nat.le_of_ble_eq_true rfl) (Nat.le_of_ble_eq_true rfl) (Nat.le_of_ble_eq_true rfl) hlocks (fun t _ h1 h2 => ⟨_, hw, rfl, xF hS h1 h2⟩) (fun z hz => (hS.2.2 z hz).elim) (Nat.le_of_ble_eq_true rfl) (Nat.le_of_ble_eq_true rfl)
  · replace hw := And.right hw c2
    refine lv_iload_n hx hb dX3_needBand_4 rfl (lv_at hl 0 rfl) ?_
    refine lv_iconst (v := 3) hx hb dX3_needBand_5 (by decide) ?_
    refine lv_icmp_lt (tgt := 19) hx hb dX3_needBand_6 (by decide) (fun c1 => ?_) (fun c1 => ?_)
    · replace hw := And.left hw c1
      refine W.widen (k := 1) (n := 6) (by decide) (by decide) ?_
      refine vx_ret ?_
      exact W.vret hx hb hr (fun t ht hW => ⟨⟨(), rfl, hw, trivial⟩, hS.F ht⟩) hS.2.2 dX3_needBand_19
    · replace hw := And.right hw c1
      exact vx_throwS hx hb hl0 (own := RX3) (cls := "java/lang/ArrayIndexOutOfBoundsException") (text := "a colour has no such band") (names := ["java/lang/IndexOutOfBoundsException", "java/lang/RuntimeException", "java/lang/Exception"]) hown (by decide +kernel) (by decide +kernel) (hts _ (xm m422)) (hts _ (xm m34)) (hE.2.2.1 7 _ rfl) (xhat tw_ArrayIndexOutOfBoundsException_170 hts hE) tw_ArrayIndexOutOfBoundsException_170_g hE.1 hE.2.1 hS (hl.1.trans hml.symm) dX3_needBand_9 dX3_needBand_12 dX3_needBand_13 dX3_needBand_15 dX3_needBand_18 (fun x hx9 => (hnoex x hx9).elim) (Nat.le_of_ble_eq_true rfl) (Nat.le_of_ble_eq_true rfl) (Nat.le_of_ble_eq_true rfl) (Nat.le_of_ble_eq_true rfl) hlocks (fun t _ h1 h2 => ⟨_, hw, rfl, xF hS h1 h2⟩) (fun z hz => (hS.2.2 z hz).elim) (Nat.le_of_ble_eq_true rfl) (Nat.le_of_ble_eq_true rfl)
abbrev wX3_needByte : List Cond := Cond.code yX3_needByte cX3_needByte 1 none :: gG
def wp_X3_needByte (p0 : Int32) (P : Prop) (PX : String → Prop) : Prop :=
  ((p0 < 0 → PX "java/lang/IllegalArgumentException") ∧
  (¬ p0 < 0 → ((p0 ≤ 255 → P) ∧
  (¬ p0 ≤ 255 → PX "java/lang/IllegalArgumentException"))))
abbrev rm_X3_needByte : Room := { frames := 6, cells := 1, slots := 6, locals := 90 }
set_option maxHeartbeats 4000000 in
set_option maxRecDepth 100000 in
theorem c_X3_needByte (l : Launch) (hl0 : l.stackTraces = false) (sa : Nat → Nat) (p0 : Int32) (P : Prop) (PX : String → Prop) (hw : wp_X3_needByte p0 P PX) : vx_Met l yX3_needByte wX3_needByte rm_X3_needByte (xP0t sa [.int p0]) (va_Qv (fun (_ : Unit) => P) (fun _ _ => True) (fun _ => False)) (xX PX) 1 6 (fun _ => False) := by
  refine vx_ofW (cc := cX3_needByte) (maxL := 1) (ret := none) (by decide) rfl ?_
  intro p e s m args below meth c s₁ B hml hnoex hv
  obtain ⟨hargs, hE⟩ := hv
  have hx := B.exec
  have hb := B.bytes
  have hr := B.returns
  have hts := atoms_spec (ws := wX3_needByte) B.pre
  have hown : s.vm.findClass RX3 = some m.cls := findClass_of_methodNamed B.named
  have hlocks := B.notSynchronized
  have hS : va_S (fun _ => False) s.heap s.heap [] := va_S.rf
  have hl := lv_entry ([.int p0]) (n := 1) (Nat.le_of_ble_eq_true rfl)
  rw [show entryFrame m args 1 = entryFrame m (([.int p0] : List Value).toArray) 1 from by rw [hargs], lg_entry_eq]
  generalize (lg_sl ([.int p0]) ++ List.replicate (1 - (lg_sl ([.int p0])).length) Slot.unset).toArray = ls at hl ⊢
  have hl : lv_has ls 1 [(0, .int p0)] := hl
  refine lv_iload_n hx hb dX3_needByte_0 rfl (lv_at hl 0 rfl) ?_
  refine lv_if_lt (tgt := 11) hx hb dX3_needByte_1 (by decide) (fun c2 => ?_) (fun c2 => ?_)
  · replace hw := And.left hw c2
    exact vx_throwS hx hb hl0 (own := RX3) (cls := "java/lang/IllegalArgumentException") (text := "a byte is 0 .. 255") (names := ["java/lang/RuntimeException", "java/lang/Exception"]) hown (by decide +kernel) (by decide +kernel) (hts _ (xm m134)) (hts _ (xm m28)) (hE.2.2.1 5 _ rfl) (xhat tw_IllegalArgumentException_64 hts hE) tw_IllegalArgumentException_64_g hE.1 hE.2.1 hS (hl.1.trans hml.symm) dX3_needByte_11 dX3_needByte_14 dX3_needByte_15 dX3_needByte_17 dX3_needByte_20 (fun x hx9 => (hnoex x hx9).elim) (Nat.le_of_ble_eq_true rfl) (Nat.le_of_ble_eq_true rfl) (Nat.le_of_ble_eq_true rfl) (Nat.le_of_ble_eq_true rfl) hlocks (fun t _ h1 h2 => ⟨_, hw, rfl, xF hS h1 h2⟩) (fun z hz => (hS.2.2 z hz).elim) (Nat.le_of_ble_eq_true rfl) (Nat.le_of_ble_eq_true rfl)
  · replace hw := And.right hw c2
    refine lv_iload_n hx hb dX3_needByte_4 rfl (lv_at hl 0 rfl) ?_
    refine lv_sipush (v := 255) hx hb dX3_needByte_5 (by decide) ?_
    refine lv_icmp_le (tgt := 21) hx hb dX3_needByte_8 (by decide) (fun c1 => ?_) (fun c1 => ?_)
    · replace hw := And.left hw c1
      refine W.widen (k := 1) (n := 6) (by decide) (by decide) ?_
      refine vx_ret ?_
      exact W.vret hx hb hr (fun t ht hW => ⟨⟨(), rfl, hw, trivial⟩, hS.F ht⟩) hS.2.2 dX3_needByte_21
    · replace hw := And.right hw c1
      exact vx_throwS hx hb hl0 (own := RX3) (cls := "java/lang/IllegalArgumentException") (text := "a byte is 0 .. 255") (names := ["java/lang/RuntimeException", "java/lang/Exception"]) hown (by decide +kernel) (by decide +kernel) (hts _ (xm m134)) (hts _ (xm m28)) (hE.2.2.1 5 _ rfl) (xhat tw_IllegalArgumentException_64 hts hE) tw_IllegalArgumentException_64_g hE.1 hE.2.1 hS (hl.1.trans hml.symm) dX3_needByte_11 dX3_needByte_14 dX3_needByte_15 dX3_needByte_17 dX3_needByte_20 (fun x hx9 => (hnoex x hx9).elim) (Nat.le_of_ble_eq_true rfl) (Nat.le_of_ble_eq_true rfl) (Nat.le_of_ble_eq_true rfl) (Nat.le_of_ble_eq_true rfl) hlocks (fun t _ h1 h2 => ⟨_, hw, rfl, xF hS h1 h2⟩) (fun z hz => (hS.2.2 z hz).elim) (Nat.le_of_ble_eq_true rfl) (Nat.le_of_ble_eq_true rfl)
abbrev wX3_needColour : List Cond := Cond.code yX3_needColour cX3_needColour 1 none :: gG
def wp_X3_needColour (p0 : Int32) (P : Prop) (PX : String → Prop) : Prop :=
  ((p0 < 0 → PX "java/lang/IllegalArgumentException") ∧
  (¬ p0 < 0 → ((p0 ≤ 16777215 → P) ∧
  (¬ p0 ≤ 16777215 → PX "java/lang/IllegalArgumentException"))))
abbrev rm_X3_needColour : Room := { frames := 6, cells := 1, slots := 6, locals := 90 }
set_option maxHeartbeats 4000000 in
set_option maxRecDepth 100000 in
theorem c_X3_needColour (l : Launch) (hl0 : l.stackTraces = false) (sa : Nat → Nat) (p0 : Int32) (P : Prop) (PX : String → Prop) (hw : wp_X3_needColour p0 P PX) : vx_Met l yX3_needColour wX3_needColour rm_X3_needColour (xP0t sa [.int p0]) (va_Qv (fun (_ : Unit) => P) (fun _ _ => True) (fun _ => False)) (xX PX) 1 6 (fun _ => False) := by
  refine vx_ofW (cc := cX3_needColour) (maxL := 1) (ret := none) (by decide) rfl ?_
  intro p e s m args below meth c s₁ B hml hnoex hv
  obtain ⟨hargs, hE⟩ := hv
  have hx := B.exec
  have hb := B.bytes
  have hr := B.returns
  have hts := atoms_spec (ws := wX3_needColour) B.pre
  have hown : s.vm.findClass RX3 = some m.cls := findClass_of_methodNamed B.named
  have hlocks := B.notSynchronized
  have hS : va_S (fun _ => False) s.heap s.heap [] := va_S.rf
  have hl := lv_entry ([.int p0]) (n := 1) (Nat.le_of_ble_eq_true rfl)
  rw [show entryFrame m args 1 = entryFrame m (([.int p0] : List Value).toArray) 1 from by rw [hargs], lg_entry_eq]
  generalize (lg_sl ([.int p0]) ++ List.replicate (1 - (lg_sl ([.int p0])).length) Slot.unset).toArray = ls at hl ⊢
  have hl : lv_has ls 1 [(0, .int p0)] := hl
  refine lv_iload_n hx hb dX3_needColour_0 rfl (lv_at hl 0 rfl) ?_
  refine lv_if_lt (tgt := 10) hx hb dX3_needColour_1 (by decide) (fun c2 => ?_) (fun c2 => ?_)
  · replace hw := And.left hw c2
    exact vx_throwS hx hb hl0 (own := RX3) (cls := "java/lang/IllegalArgumentException") (text := "a colour is 0 .. 16777215") (names := ["java/lang/RuntimeException", "java/lang/Exception"]) hown (by decide +kernel) (by decide +kernel) (hts _ (xm m134)) (hts _ (xm m28)) (hE.2.2.1 10 _ rfl) (xhat tw_IllegalArgumentException_64 hts hE) tw_IllegalArgumentException_64_g hE.1 hE.2.1 hS (hl.1.trans hml.symm) dX3_needColour_10 dX3_needColour_13 dX3_needColour_14 dX3_needColour_16 dX3_needColour_19 (fun x hx9 => (hnoex x hx9).elim) (Nat.le_of_ble_eq_true rfl) (Nat.le_of_ble_eq_true rfl) (Nat.le_of_ble_eq_true rfl) (Nat.le_of_ble_eq_true rfl) hlocks (fun t _ h1 h2 => ⟨_, hw, rfl, xF hS h1 h2⟩) (fun z hz => (hS.2.2 z hz).elim) (Nat.le_of_ble_eq_true rfl) (Nat.le_of_ble_eq_true rfl)
  · replace hw := And.right hw c2
    refine lv_iload_n hx hb dX3_needColour_4 rfl (lv_at hl 0 rfl) ?_
    refine lv_ldc hx hb hown (hts _ (xm m519)) dX3_needColour_5 ?_
    refine lv_icmp_le (tgt := 20) hx hb dX3_needColour_7 (by decide) (fun c1 => ?_) (fun c1 => ?_)
    · replace hw := And.left hw c1
      refine W.widen (k := 1) (n := 6) (by decide) (by decide) ?_
      refine vx_ret ?_
      exact W.vret hx hb hr (fun t ht hW => ⟨⟨(), rfl, hw, trivial⟩, hS.F ht⟩) hS.2.2 dX3_needColour_20
    · replace hw := And.right hw c1
      exact vx_throwS hx hb hl0 (own := RX3) (cls := "java/lang/IllegalArgumentException") (text := "a colour is 0 .. 16777215") (names := ["java/lang/RuntimeException", "java/lang/Exception"]) hown (by decide +kernel) (by decide +kernel) (hts _ (xm m134)) (hts _ (xm m28)) (hE.2.2.1 10 _ rfl) (xhat tw_IllegalArgumentException_64 hts hE) tw_IllegalArgumentException_64_g hE.1 hE.2.1 hS (hl.1.trans hml.symm) dX3_needColour_10 dX3_needColour_13 dX3_needColour_14 dX3_needColour_16 dX3_needColour_19 (fun x hx9 => (hnoex x hx9).elim) (Nat.le_of_ble_eq_true rfl) (Nat.le_of_ble_eq_true rfl) (Nat.le_of_ble_eq_true rfl) (Nat.le_of_ble_eq_true rfl) hlocks (fun t _ h1 h2 => ⟨_, hw, rfl, xF hS h1 h2⟩) (fun z hz => (hS.2.2 z hz).elim) (Nat.le_of_ble_eq_true rfl) (Nat.le_of_ble_eq_true rfl)
abbrev wX3_needMode : List Cond := Cond.code yX3_needMode cX3_needMode 2 none :: gG
def wp_X3_needMode (p0 : Int32) (p1 : Int32) (P : Prop) (PX : String → Prop) : Prop :=
  ((p0 < 0 → PX "java/lang/IllegalArgumentException") ∧
  (¬ p0 < 0 → ((p0 ≤ p1 → P) ∧
  (¬ p0 ≤ p1 → PX "java/lang/IllegalArgumentException"))))
abbrev rm_X3_needMode : Room := { frames := 6, cells := 1, slots := 6, locals := 90 }
set_option maxHeartbeats 4000000 in
set_option maxRecDepth 100000 in
theorem c_X3_needMode (l : Launch) (hl0 : l.stackTraces = false) (sa : Nat → Nat) (p0 : Int32) (p1 : Int32) (P : Prop) (PX : String → Prop) (hw : wp_X3_needMode p0 p1 P PX) : vx_Met l yX3_needMode wX3_needMode rm_X3_needMode (xP0t sa [.int p0, .int p1]) (va_Qv (fun (_ : Unit) => P) (fun _ _ => True) (fun _ => False)) (xX PX) 1 6 (fun _ => False) := by
  refine vx_ofW (cc := cX3_needMode) (maxL := 2) (ret := none) (by decide) rfl ?_
  intro p e s m args below meth c s₁ B hml hnoex hv
  obtain ⟨hargs, hE⟩ := hv
  have hx := B.exec
  have hb := B.bytes
  have hr := B.returns
  have hts := atoms_spec (ws := wX3_needMode) B.pre
  have hown : s.vm.findClass RX3 = some m.cls := findClass_of_methodNamed B.named
  have hlocks := B.notSynchronized
  have hS : va_S (fun _ => False) s.heap s.heap [] := va_S.rf
  have hl := lv_entry ([.int p0, .int p1]) (n := 2) (Nat.le_of_ble_eq_true rfl)
  rw [show entryFrame m args 2 = entryFrame m (([.int p0, .int p1] : List Value).toArray) 2 from by rw [hargs], lg_entry_eq]
  generalize (lg_sl ([.int p0, .int p1]) ++ List.replicate (2 - (lg_sl ([.int p0, .int p1])).length) Slot.unset).toArray = ls at hl ⊢
  have hl : lv_has ls 2 [(0, .int p0), (1, .int p1)] := hl
  refine lv_iload_n hx hb dX3_needMode_0 rfl (lv_at hl 0 rfl) ?_
  refine lv_if_lt (tgt := 9) hx hb dX3_needMode_1 (by decide) (fun c2 => ?_) (fun c2 => ?_)
  · replace hw := And.left hw c2
    exact vx_throwS hx hb hl0 (own := RX3) (cls := "java/lang/IllegalArgumentException") (text := "there is no such mode") (names := ["java/lang/RuntimeException", "java/lang/Exception"]) hown (by decide +kernel) (by decide +kernel) (hts _ (xm m134)) (hts _ (xm m28)) (hE.2.2.1 4 _ rfl) (xhat tw_IllegalArgumentException_64 hts hE) tw_IllegalArgumentException_64_g hE.1 hE.2.1 hS (hl.1.trans hml.symm) dX3_needMode_9 dX3_needMode_12 dX3_needMode_13 dX3_needMode_15 dX3_needMode_18 (fun x hx9 => (hnoex x hx9).elim) (Nat.le_of_ble_eq_true rfl) (Nat.le_of_ble_eq_true rfl) (Nat.le_of_ble_eq_true rfl) (Nat.le_of_ble_eq_true rfl) hlocks (fun t _ h1 h2 => ⟨_, hw, rfl, xF hS h1 h2⟩) (fun z hz => (hS.2.2 z hz).elim) (Nat.le_of_ble_eq_true rfl) (Nat.le_of_ble_eq_true rfl)
  · replace hw := And.right hw c2
    refine lv_iload_n hx hb dX3_needMode_4 rfl (lv_at hl 0 rfl) ?_
    refine lv_iload_n hx hb dX3_needMode_5 rfl (lv_at hl 1 rfl) ?_
    refine lv_icmp_le (tgt := 19) hx hb dX3_needMode_6 (by decide) (fun c1 => ?_) (fun c1 => ?_)
    · replace hw := And.left hw c1
      refine W.widen (k := 1) (n := 6) (by decide) (by decide) ?_
      refine vx_ret ?_
      exact W.vret hx hb hr (fun t ht hW => ⟨⟨(), rfl, hw, trivial⟩, hS.F ht⟩) hS.2.2 dX3_needMode_19
    · replace hw := And.right hw c1
      exact vx_throwS hx hb hl0 (own := RX3) (cls := "java/lang/IllegalArgumentException") (text := "there is no such mode") (names := ["java/lang/RuntimeException", "java/lang/Exception"]) hown (by decide +kernel) (by decide +kernel) (hts _ (xm m134)) (hts _ (xm m28)) (hE.2.2.1 4 _ rfl) (xhat tw_IllegalArgumentException_64 hts hE) tw_IllegalArgumentException_64_g hE.1 hE.2.1 hS (hl.1.trans hml.symm) dX3_needMode_9 dX3_needMode_12 dX3_needMode_13 dX3_needMode_15 dX3_needMode_18 (fun x hx9 => (hnoex x hx9).elim) (Nat.le_of_ble_eq_true rfl) (Nat.le_of_ble_eq_true rfl) (Nat.le_of_ble_eq_true rfl) (Nat.le_of_ble_eq_true rfl) hlocks (fun t _ h1 h2 => ⟨_, hw, rfl, xF hS h1 h2⟩) (fun z hz => (hS.2.2 z hz).elim) (Nat.le_of_ble_eq_true rfl) (Nat.le_of_ble_eq_true rfl)
