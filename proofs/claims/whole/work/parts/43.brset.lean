theorem m43 : Cond.methodLink RX3 9 Lib.Math.min.name ∈ gG := gG_mk (i := 43) (by decide +kernel) (by decide +kernel)
theorem m46 : Cond.methodLink RX3 15 Lib.Math.max.name ∈ gG := gG_mk (i := 46) (by decide +kernel) (by decide +kernel)
theorem m86 : Cond.fieldLink RX3 132 "BlendRows" "paint" "I" ∈ gG := gG_mk (i := 86) (by decide +kernel) (by decide +kernel)
theorem m87 : Cond.fieldLink RX3 117 "BlendRows" "stayingBands" "I" ∈ gG := gG_mk (i := 87) (by decide +kernel) (by decide +kernel)
abbrev wX3_bound : List Cond := Cond.code yX3_bound cX3_bound 2 none :: gG
def wp_X3_bound (n : Nat) (ua : Nat → Nat → Int32) (p0 : Int32) (P : (Nat → Nat → Int32) → Prop) (PX : String → Prop) : Prop :=
  ((p0 < 1 → PX "java/lang/IllegalArgumentException") ∧
  (¬ p0 < 1 → ((p0 ≤ 6 → ∀ ua1 : Nat → Nat → Int32, ua1 = st ua 0 6 p0 → P ua1) ∧
  (¬ p0 ≤ 6 → PX "java/lang/IllegalArgumentException"))))
abbrev rm_X3_bound : Room := { frames := 6, cells := 1, slots := 6, locals := 90 }
set_option maxHeartbeats 4000000 in
set_option maxRecDepth 100000 in
theorem c_X3_bound (l : Launch) (hl0 : l.stackTraces = false) (dC : Nat → ClassId) (dI : Nat → Nat → Nat) (cA : Nat → ClassId) (sa : Nat → Nat) (ga : Nat → Nat) (gl : Nat → Nat → Nat) (n : Nat) (sz : Nat) (ua : Nat → Nat → Int32) (p0 : Int32) (P : (Nat → Nat → Int32) → Prop) (PX : String → Prop) (hw : wp_X3_bound n ua p0 P PX) : vx_Met l yX3_bound wX3_bound rm_X3_bound (xP2t dC dI cA sa (w_br ga gl cA n ua) sz [.ref (ga 0), .int p0]) (va_Qv (fun (u : (Nat → Nat → Int32)) => P u) (xB dC dI cA (fun u : (Nat → Nat → Int32) => w_br ga gl cA n u) (va_A (w_br ga gl cA n ua) sz)) (va_A (w_br ga gl cA n ua) sz)) (xX PX) 1 6 (va_A (w_br ga gl cA n ua) sz) := by
  refine vx_ofW (cc := cX3_bound) (maxL := 2) (ret := none) (by decide) rfl ?_
  intro p e s m args below meth c s₁ B hml hnoex hv
  obtain ⟨hargs, hsz, hP, hK, hD0, hE⟩ := hv
  have hx := B.exec
  have hb := B.bytes
  have hr := B.returns
  have hts := atoms_spec (ws := wX3_bound) B.pre
  have hown : s.vm.findClass RX3 = some m.cls := findClass_of_methodNamed B.named
  have hlocks := B.notSynchronized
  subst hsz
  have hD := hD0.self (sz := s.heap.size)
  generalize hAe : va_A (w_br ga gl cA n ua) s.heap.size = A at hD ⊢
  have hA : ∀ q : Nat, s.heap.size ≤ q → A q := fun q h => by rw [← hAe]; exact Or.inr h
  have hS : va_S (fun _ => False) s.heap s.heap [] := va_S.rf
  clear hAe hD0
  have hl := lv_entry ([.ref (ga 0), .int p0]) (n := 2) (Nat.le_of_ble_eq_true rfl)
  rw [show entryFrame m args 2 = entryFrame m (([.ref (ga 0), .int p0] : List Value).toArray) 2 from by rw [hargs], lg_entry_eq]
  generalize (lg_sl ([.ref (ga 0), .int p0]) ++ List.replicate (2 - (lg_sl ([.ref (ga 0), .int p0])).length) Slot.unset).toArray = ls at hl ⊢
  have hl : lv_has ls 2 [(0, .ref (ga 0)), (1, .int p0)] := hl
  have hP : va_P (dC, dI) vwCl (w_br ga gl cA n ua) s.heap := hP
  refine lv_iload_n hx hb dX3_bound_0 rfl (lv_at hl 1 rfl) ?_
  refine lv_iconst (v := 1) hx hb dX3_bound_1 (by decide) ?_
  refine lv_icmp_lt (tgt := 11) hx hb dX3_bound_2 (by decide) (fun c3 => ?_) (fun c3 => ?_)
  · replace hw := And.left hw c3
    exact vx_throwS hx hb hl0 (own := RX3) (cls := "java/lang/IllegalArgumentException") (text := "a bound is 1 .. 6") (names := ["java/lang/RuntimeException", "java/lang/Exception"]) hown (by decide +kernel) (by decide +kernel) (hts _ (xm m134)) (hts _ (xm m28)) (hE.2.2.1 1 _ rfl) (xhat tw_IllegalArgumentException_64 hts hE) tw_IllegalArgumentException_64_g hE.1 hE.2.1 hS (hl.1.trans hml.symm) dX3_bound_11 dX3_bound_14 dX3_bound_15 dX3_bound_17 dX3_bound_20 (fun x hx9 => (hnoex x hx9).elim) (Nat.le_of_ble_eq_true rfl) (Nat.le_of_ble_eq_true rfl) (Nat.le_of_ble_eq_true rfl) (Nat.le_of_ble_eq_true rfl) hlocks (fun t _ h1 h2 => ⟨_, hw, rfl, xF hS h1 h2⟩) (fun z hz => (hS.2.2 z hz).elim) (Nat.le_of_ble_eq_true rfl) (Nat.le_of_ble_eq_true rfl)
  · replace hw := And.right hw c3
    refine lv_iload_n hx hb dX3_bound_5 rfl (lv_at hl 1 rfl) ?_
    refine lv_bipush (v := 6) hx hb dX3_bound_6 (by decide) ?_
    refine lv_icmp_le (tgt := 21) hx hb dX3_bound_8 (by decide) (fun c2 => ?_) (fun c2 => ?_)
    · replace hw := And.left hw c2
      refine lv_aload_n hx hb dX3_bound_21 rfl (lv_at hl 0 rfl) ?_
      refine lv_iload_n hx hb dX3_bound_22 rfl (lv_at hl 1 rfl) ?_
      obtain ⟨ua1, e_ua1⟩ : ∃ z, z = st ua 0 6 p0 := ⟨_, rfl⟩
      replace hS := xmono (A := A) hS
      refine va_put (D := (dC, dI)) (ci := 2) (v := .int p0) (ty := .int) (C := RX3) (T := TX3) (N := 13) hx hb hts iX3 tyX3 tyX3_ok nmX3 hown hK hP hD hS 0 rfl rfl 9 (by decide) (hts _ (xm m88)) (fun _ h9 => h9) rfl (by decide +kernel) rfl rfl (Nat.le_of_ble_eq_true rfl) dX3_bound_23 (fun H locs hP hD hS => ?_)
      replace hw := hw ua1 e_ua1
      have hP : va_P (dC, dI) vwCl (w_br ga gl cA n ua1) H := by rw [e_ua1]; exact hP
      have hD : va_D A (w_br ga gl cA n ua1) := by rw [e_ua1]; exact hD
      refine W.widen (k := 1) (n := 6) (by decide) (by decide) ?_
      refine vx_ret ?_
      exact W.vret hx hb hr (fun t ht hW => ⟨⟨ua1, rfl, hw, by rw [ht]; exact hP, va_K.moved hW.alike hK, hD⟩, hS.F ht⟩) hS.2.2 dX3_bound_26
    · replace hw := And.right hw c2
      exact vx_throwS hx hb hl0 (own := RX3) (cls := "java/lang/IllegalArgumentException") (text := "a bound is 1 .. 6") (names := ["java/lang/RuntimeException", "java/lang/Exception"]) hown (by decide +kernel) (by decide +kernel) (hts _ (xm m134)) (hts _ (xm m28)) (hE.2.2.1 1 _ rfl) (xhat tw_IllegalArgumentException_64 hts hE) tw_IllegalArgumentException_64_g hE.1 hE.2.1 hS (hl.1.trans hml.symm) dX3_bound_11 dX3_bound_14 dX3_bound_15 dX3_bound_17 dX3_bound_20 (fun x hx9 => (hnoex x hx9).elim) (Nat.le_of_ble_eq_true rfl) (Nat.le_of_ble_eq_true rfl) (Nat.le_of_ble_eq_true rfl) (Nat.le_of_ble_eq_true rfl) hlocks (fun t _ h1 h2 => ⟨_, hw, rfl, xF hS h1 h2⟩) (fun z hz => (hS.2.2 z hz).elim) (Nat.le_of_ble_eq_true rfl) (Nat.le_of_ble_eq_true rfl)
abbrev wX3_unmask : List Cond := Cond.code yX3_unmask cX3_unmask 1 none :: gG
def wp_X3_unmask (n : Nat) (ua : Nat → Nat → Int32) (P : (Nat → Nat → Int32) → Prop) : Prop :=
  ∀ ua1 : Nat → Nat → Int32, ua1 = st ua 0 3 0 → P ua1
abbrev rm_X3_unmask : Room := { frames := 0, cells := 0, slots := 0, locals := 0 }
set_option maxHeartbeats 4000000 in
set_option maxRecDepth 100000 in
theorem c_X3_unmask (l : Launch) (dC : Nat → ClassId) (dI : Nat → Nat → Nat) (cA : Nat → ClassId) (ga : Nat → Nat) (gl : Nat → Nat → Nat) (n : Nat) (sz : Nat) (ua : Nat → Nat → Int32) (P : (Nat → Nat → Int32) → Prop) (hw : wp_X3_unmask n ua P) : Met l yX3_unmask wX3_unmask rm_X3_unmask (xP2 dC dI cA (w_br ga gl cA n ua) sz [.ref (ga 0)]) (va_Qv (fun (u : (Nat → Nat → Int32)) => P u) (xB dC dI cA (fun u : (Nat → Nat → Int32) => w_br ga gl cA n u) (va_A (w_br ga gl cA n ua) sz)) (va_A (w_br ga gl cA n ua) sz)) 0 0 (va_A (w_br ga gl cA n ua) sz) := by
  refine Met.ofW (cc := cX3_unmask) (maxL := 1) (ret := none) (by decide) rfl ?_
  intro p e s m args below meth c s₁ B hml hv
  obtain ⟨hargs, hsz, hP, hK, hD0⟩ := hv
  have hx := B.exec
  have hb := B.bytes
  have hr := B.returns
  have hts := atoms_spec (ws := wX3_unmask) B.pre
  have hown : s.vm.findClass RX3 = some m.cls := findClass_of_methodNamed B.named
  have hlocks := B.notSynchronized
  subst hsz
  have hD := hD0.self (sz := s.heap.size)
  generalize hAe : va_A (w_br ga gl cA n ua) s.heap.size = A at hD ⊢
  have hA : ∀ q : Nat, s.heap.size ≤ q → A q := fun q h => by rw [← hAe]; exact Or.inr h
  have hS : va_S A s.heap s.heap [] := va_S.rf
  clear hAe hD0
  have hl := lv_entry ([.ref (ga 0)]) (n := 1) (Nat.le_of_ble_eq_true rfl)
  rw [show entryFrame m args 1 = entryFrame m (([.ref (ga 0)] : List Value).toArray) 1 from by rw [hargs], lg_entry_eq]
  generalize (lg_sl ([.ref (ga 0)]) ++ List.replicate (1 - (lg_sl ([.ref (ga 0)])).length) Slot.unset).toArray = ls at hl ⊢
  have hl : lv_has ls 1 [(0, .ref (ga 0))] := hl
  have hP : va_P (dC, dI) vwCl (w_br ga gl cA n ua) s.heap := hP
  refine lv_aload_n hx hb dX3_unmask_0 rfl (lv_at hl 0 rfl) ?_
  refine lv_iconst (v := 0) hx hb dX3_unmask_1 (by decide) ?_
  obtain ⟨ua1, e_ua1⟩ : ∃ z, z = st ua 0 3 0 := ⟨_, rfl⟩
  refine va_put (D := (dC, dI)) (ci := 2) (v := .int 0) (ty := .boolean) (C := RX3) (T := TX3) (N := 13) hx hb hts iX3 tyX3 tyX3_ok nmX3 hown hK hP hD hS 0 rfl rfl 6 (by decide) (hts _ (xm m85)) (fun _ h9 => h9) rfl (by decide +kernel) rfl rfl (Nat.le_of_ble_eq_true rfl) dX3_unmask_2 (fun H locs hP hD hS => ?_)
  replace hw := hw ua1 e_ua1
  have hP : va_P (dC, dI) vwCl (w_br ga gl cA n ua1) H := by rw [e_ua1]; exact hP
  have hD : va_D A (w_br ga gl cA n ua1) := by rw [e_ua1]; exact hD
  exact W.vret hx hb hr (fun t ht hW => ⟨⟨ua1, rfl, hw, by rw [ht]; exact hP, va_K.moved hW.alike hK, hD⟩, hS.F ht⟩) hS.2.2 dX3_unmask_5
abbrev wX3_colour : List Cond := Cond.code yX3_colour cX3_colour 3 none :: gG
def wp_X3_colour (n : Nat) (ua : Nat → Nat → Int32) (p0 : Int32) (p1 : Int32) (P : (Nat → Nat → Int32) → Prop) (PX : String → Prop) : Prop :=
  wp_X3_needByte p1 (wp_X3_needBand p0 (∀ ua1 : Nat → Nat → Int32, ua1 = st ua 0 4 (((ua 0 4) &&& ((255 <<< ((8 * p0) &&& 31)) ^^^ (-1))) ||| (p1 <<< ((8 * p0) &&& 31))) → P ua1) PX) PX
abbrev rm_X3_colour : Room := { frames := 8, cells := 2, slots := 12, locals := 123 }
set_option maxHeartbeats 4000000 in
set_option maxRecDepth 100000 in
theorem c_X3_colour (l : Launch) (hl0 : l.stackTraces = false) (dC : Nat → ClassId) (dI : Nat → Nat → Nat) (cA : Nat → ClassId) (sa : Nat → Nat) (ga : Nat → Nat) (gl : Nat → Nat → Nat) (n : Nat) (sz : Nat) (ua : Nat → Nat → Int32) (p0 : Int32) (p1 : Int32) (P : (Nat → Nat → Int32) → Prop) (PX : String → Prop) (hw : wp_X3_colour n ua p0 p1 P PX) : vx_Met l yX3_colour wX3_colour rm_X3_colour (xP2t dC dI cA sa (w_br ga gl cA n ua) sz [.ref (ga 0), .int p0, .int p1]) (va_Qv (fun (u : (Nat → Nat → Int32)) => P u) (xB dC dI cA (fun u : (Nat → Nat → Int32) => w_br ga gl cA n u) (va_A (w_br ga gl cA n ua) sz)) (va_A (w_br ga gl cA n ua) sz)) (xX PX) 2 12 (va_A (w_br ga gl cA n ua) sz) := by
  refine vx_ofW (cc := cX3_colour) (maxL := 3) (ret := none) (by decide) rfl ?_
  intro p e s m args below meth c s₁ B hml hnoex hv
  obtain ⟨hargs, hsz, hP, hK, hD0, hE⟩ := hv
  have hx := B.exec
  have hb := B.bytes
  have hr := B.returns
  have hts := atoms_spec (ws := wX3_colour) B.pre
  have hown : s.vm.findClass RX3 = some m.cls := findClass_of_methodNamed B.named
  have hlocks := B.notSynchronized
  subst hsz
  have hD := hD0.self (sz := s.heap.size)
  generalize hAe : va_A (w_br ga gl cA n ua) s.heap.size = A at hD ⊢
  have hA : ∀ q : Nat, s.heap.size ≤ q → A q := fun q h => by rw [← hAe]; exact Or.inr h
  have hS : va_S (fun _ => False) s.heap s.heap [] := va_S.rf
  clear hAe hD0
  have hl := lv_entry ([.ref (ga 0), .int p0, .int p1]) (n := 3) (Nat.le_of_ble_eq_true rfl)
  rw [show entryFrame m args 3 = entryFrame m (([.ref (ga 0), .int p0, .int p1] : List Value).toArray) 3 from by rw [hargs], lg_entry_eq]
  generalize (lg_sl ([.ref (ga 0), .int p0, .int p1]) ++ List.replicate (3 - (lg_sl ([.ref (ga 0), .int p0, .int p1])).length) Slot.unset).toArray = ls at hl ⊢
  have hl : lv_has ls 3 [(0, .ref (ga 0)), (1, .int p0), (2, .int p1)] := hl
  have hP : va_P (dC, dI) vwCl (w_br ga gl cA n ua) s.heap := hP
  refine lv_iload_n hx hb dX3_colour_0 rfl (lv_at hl 2 rfl) ?_
  refine vx_callv (vx_runS (As := [.int p1]) (rest := []) ⟨hx, hb, hml, hown, hts⟩ (c_X3_needByte l hl0 sa p1 _ _ hw) (gcS 1 hts m295 m293 m294 m21 rfl rfl (by decide +kernel) ⟨Nat.le_of_ble_eq_true rfl, Nat.le_of_ble_eq_true rfl⟩) ⟨xbl0t, fun U hU hW => ⟨rfl, xEmv hE hW hS hU⟩⟩ rfl rfl hl.1 rfl (lv_room (Nat.le_of_ble_eq_true rfl)) dX3_colour_1 ⟨Nat.le_of_ble_eq_true rfl, Nat.le_of_ble_eq_true rfl⟩) hS (fun q _ h => h.elim) (fun q h => h.elim) (fun q _ h => h.elim) (fun E ce q9 u t H1 locs1 ht hvm hpx hB hz1 hk1 hS1 hce hcv hcl => ?_) (fun u t H1 locs ht hvm hw hB hz1 hk1 hS => ?_)
  · subst hB
    exact vx_out (fun x hx9 => (hnoex x hx9).elim) hlocks hce hcv hcl (fun t ht2 hvm2 => ⟨_, hpx, rfl, hS1.F ht2⟩) (fun z hz => (hS1.2.2 z hz).elim) (Nat.le_of_ble_eq_true rfl) (Nat.le_of_ble_eq_true rfl)
  replace hP := xkeep hP hk1
  clear ht hB hz1 hk1
  generalize H1 = H at hP hS ⊢
  refine lv_iload_n hx hb dX3_colour_4 rfl (lv_at hl 1 rfl) ?_
  refine vx_callv (vx_runS (As := [.int p0]) (rest := []) ⟨hx, hb, hml, hown, hts⟩ (c_X3_needBand l hl0 sa p0 _ _ hw) (gcS 1 hts m421 m419 m420 m21 rfl rfl (by decide +kernel) ⟨Nat.le_of_ble_eq_true rfl, Nat.le_of_ble_eq_true rfl⟩) ⟨xbl0t, fun U hU hW => ⟨rfl, xEmv hE hW hS hU⟩⟩ rfl rfl hl.1 rfl (lv_room (Nat.le_of_ble_eq_true rfl)) dX3_colour_5 ⟨Nat.le_of_ble_eq_true rfl, Nat.le_of_ble_eq_true rfl⟩) hS (fun q _ h => h.elim) (fun q h => h.elim) (fun q _ h => h.elim) (fun E ce q9 u t H1 locs1 ht hvm hpx hB hz1 hk1 hS1 hce hcv hcl => ?_) (fun u t H1 locs ht hvm hw hB hz1 hk1 hS => ?_)
  · subst hB
    exact vx_out (fun x hx9 => (hnoex x hx9).elim) hlocks hce hcv hcl (fun t ht2 hvm2 => ⟨_, hpx, rfl, hS1.F ht2⟩) (fun z hz => (hS1.2.2 z hz).elim) (Nat.le_of_ble_eq_true rfl) (Nat.le_of_ble_eq_true rfl)
  replace hP := xkeep hP hk1
  clear ht hB hz1 hk1
  generalize H1 = H at hP hS ⊢
  refine lv_aload_n hx hb dX3_colour_8 rfl (lv_at hl 0 rfl) ?_
  refine lv_aload_n hx hb dX3_colour_9 rfl (lv_at hl 0 rfl) ?_
  refine va_get (D := (dC, dI)) (ci := 2) (v := .int (ua 0 4)) (C := RX3) (T := TX3) (N := 13) hx hb hts iX3 hown hK hP 0 rfl rfl 7 (by decide) (hts _ (xm m86)) (fun _ h9 => h9) rfl dX3_colour_10 ?_
  refine lv_sipush (v := 255) hx hb dX3_colour_13 (by decide) ?_
  refine lv_bipush (v := 8) hx hb dX3_colour_16 (by decide) ?_
  refine lv_iload_n hx hb dX3_colour_18 rfl (lv_at hl 1 rfl) ?_
  refine lv_imul hx hb dX3_colour_19 ?_
  refine lv_ishl hx hb dX3_colour_20 ?_
  refine lv_iconst (v := (-1)) hx hb dX3_colour_21 (by decide) ?_
  refine lv_ixor hx hb dX3_colour_22 ?_
  refine lv_iand hx hb dX3_colour_23 ?_
  refine lv_iload_n hx hb dX3_colour_24 rfl (lv_at hl 2 rfl) ?_
  refine lv_bipush (v := 8) hx hb dX3_colour_25 (by decide) ?_
  refine lv_iload_n hx hb dX3_colour_27 rfl (lv_at hl 1 rfl) ?_
  refine lv_imul hx hb dX3_colour_28 ?_
  refine lv_ishl hx hb dX3_colour_29 ?_
  refine lv_ior hx hb dX3_colour_30 ?_
  obtain ⟨ua1, e_ua1⟩ : ∃ z, z = st ua 0 4 (((ua 0 4) &&& ((255 <<< ((8 * p0) &&& 31)) ^^^ (-1))) ||| (p1 <<< ((8 * p0) &&& 31))) := ⟨_, rfl⟩
  replace hS := xmono (A := A) hS
  refine va_put (D := (dC, dI)) (ci := 2) (v := .int (((ua 0 4) &&& ((255 <<< ((8 * p0) &&& 31)) ^^^ (-1))) ||| (p1 <<< ((8 * p0) &&& 31)))) (ty := .int) (C := RX3) (T := TX3) (N := 13) hx hb hts iX3 tyX3 tyX3_ok nmX3 hown hK hP hD hS 0 rfl rfl 7 (by decide) (hts _ (xm m86)) (fun _ h9 => h9) rfl (by decide +kernel) rfl rfl (Nat.le_of_ble_eq_true rfl) dX3_colour_31 (fun H locs hP hD hS => ?_)
  replace hw := hw ua1 e_ua1
  have hP : va_P (dC, dI) vwCl (w_br ga gl cA n ua1) H := by rw [e_ua1]; exact hP
  have hD : va_D A (w_br ga gl cA n ua1) := by rw [e_ua1]; exact hD
  refine vx_ret ?_
  exact W.vret hx hb hr (fun t ht hW => ⟨⟨ua1, rfl, hw, by rw [ht]; exact hP, va_K.moved hW.alike hK, hD⟩, hS.F ht⟩) hS.2.2 dX3_colour_34
abbrev wX3_stays : List Cond := Cond.code yX3_stays cX3_stays 4 none :: gG
def wp_X3_stays (n : Nat) (ua : Nat → Nat → Int32) (p0 : Int32) (p1 : Int32) (P : (Nat → Nat → Int32) → Prop) (PX : String → Prop) : Prop :=
  wp_X3_needBand p0 (∀ v1 : Int32, v1 = (1 <<< (p0 &&& 31)) → ((p1 = 0 → ∀ ua2 : Nat → Nat → Int32, ua2 = st ua 0 5 ((ua 0 5) &&& (v1 ^^^ (-1))) → P ua2) ∧
  (¬ p1 = 0 → ∀ ua3 : Nat → Nat → Int32, ua3 = st ua 0 5 ((ua 0 5) ||| v1) → P ua3))) PX
abbrev rm_X3_stays : Room := { frames := 8, cells := 1, slots := 6, locals := 123 }
set_option maxHeartbeats 4000000 in
set_option maxRecDepth 100000 in
theorem c_X3_stays (l : Launch) (hl0 : l.stackTraces = false) (dC : Nat → ClassId) (dI : Nat → Nat → Nat) (cA : Nat → ClassId) (sa : Nat → Nat) (ga : Nat → Nat) (gl : Nat → Nat → Nat) (n : Nat) (sz : Nat) (ua : Nat → Nat → Int32) (p0 : Int32) (p1 : Int32) (P : (Nat → Nat → Int32) → Prop) (PX : String → Prop) (hw : wp_X3_stays n ua p0 p1 P PX) : vx_Met l yX3_stays wX3_stays rm_X3_stays (xP2t dC dI cA sa (w_br ga gl cA n ua) sz [.ref (ga 0), .int p0, .int p1]) (va_Qv (fun (u : (Nat → Nat → Int32)) => P u) (xB dC dI cA (fun u : (Nat → Nat → Int32) => w_br ga gl cA n u) (va_A (w_br ga gl cA n ua) sz)) (va_A (w_br ga gl cA n ua) sz)) (xX PX) 1 6 (va_A (w_br ga gl cA n ua) sz) := by
  refine vx_ofW (cc := cX3_stays) (maxL := 4) (ret := none) (by decide) rfl ?_
  intro p e s m args below meth c s₁ B hml hnoex hv
  obtain ⟨hargs, hsz, hP, hK, hD0, hE⟩ := hv
  have hx := B.exec
  have hb := B.bytes
  have hr := B.returns
  have hts := atoms_spec (ws := wX3_stays) B.pre
  have hown : s.vm.findClass RX3 = some m.cls := findClass_of_methodNamed B.named
  have hlocks := B.notSynchronized
  subst hsz
  have hD := hD0.self (sz := s.heap.size)
  generalize hAe : va_A (w_br ga gl cA n ua) s.heap.size = A at hD ⊢
  have hA : ∀ q : Nat, s.heap.size ≤ q → A q := fun q h => by rw [← hAe]; exact Or.inr h
  have hS : va_S (fun _ => False) s.heap s.heap [] := va_S.rf
  clear hAe hD0
  have hl := lv_entry ([.ref (ga 0), .int p0, .int p1]) (n := 4) (Nat.le_of_ble_eq_true rfl)
  rw [show entryFrame m args 4 = entryFrame m (([.ref (ga 0), .int p0, .int p1] : List Value).toArray) 4 from by rw [hargs], lg_entry_eq]
  generalize (lg_sl ([.ref (ga 0), .int p0, .int p1]) ++ List.replicate (4 - (lg_sl ([.ref (ga 0), .int p0, .int p1])).length) Slot.unset).toArray = ls at hl ⊢
  have hl : lv_has ls 4 [(0, .ref (ga 0)), (1, .int p0), (2, .int p1)] := hl
  have hP : va_P (dC, dI) vwCl (w_br ga gl cA n ua) s.heap := hP
  refine lv_iload_n hx hb dX3_stays_0 rfl (lv_at hl 1 rfl) ?_
  refine vx_callv (vx_runS (As := [.int p0]) (rest := []) ⟨hx, hb, hml, hown, hts⟩ (c_X3_needBand l hl0 sa p0 _ _ hw) (gcS 1 hts m421 m419 m420 m21 rfl rfl (by decide +kernel) ⟨Nat.le_of_ble_eq_true rfl, Nat.le_of_ble_eq_true rfl⟩) ⟨xbl0t, fun U hU hW => ⟨rfl, xEmv hE hW hS hU⟩⟩ rfl rfl hl.1 rfl (lv_room (Nat.le_of_ble_eq_true rfl)) dX3_stays_1 ⟨Nat.le_of_ble_eq_true rfl, Nat.le_of_ble_eq_true rfl⟩) hS (fun q _ h => h.elim) (fun q h => h.elim) (fun q _ h => h.elim) (fun E ce q9 u t H1 locs1 ht hvm hpx hB hz1 hk1 hS1 hce hcv hcl => ?_) (fun u t H1 locs ht hvm hw hB hz1 hk1 hS => ?_)
  · subst hB
    exact vx_out (fun x hx9 => (hnoex x hx9).elim) hlocks hce hcv hcl (fun t ht2 hvm2 => ⟨_, hpx, rfl, hS1.F ht2⟩) (fun z hz => (hS1.2.2 z hz).elim) (Nat.le_of_ble_eq_true rfl) (Nat.le_of_ble_eq_true rfl)
  replace hP := xkeep hP hk1
  clear ht hB hz1 hk1
  generalize H1 = H at hP hS ⊢
  refine lv_iconst (v := 1) hx hb dX3_stays_4 (by decide) ?_
  refine lv_iload_n hx hb dX3_stays_5 rfl (lv_at hl 1 rfl) ?_
  refine lv_ishl hx hb dX3_stays_6 ?_
  refine lv_topi (fun v1 e_v1 => ?_)
  replace hw := hw v1 e_v1
  refine lv_istore_n (lv' := [(3, .int v1), (0, .ref (ga 0)), (1, .int p0), (2, .int p1)]) hx hb dX3_stays_7 rfl hl (by decide) rfl (fun ls hl => ?_)
  refine lv_aload_n hx hb dX3_stays_8 rfl (lv_at hl 1 rfl) ?_
  refine lv_iload_n hx hb dX3_stays_9 rfl (lv_at hl 3 rfl) ?_
  refine lv_if_eq (tgt := 22) hx hb dX3_stays_10 (by decide) (fun c4 => ?_) (fun c4 => ?_)
  · replace hw := And.left hw c4
    refine lv_aload_n hx hb dX3_stays_22 rfl (lv_at hl 1 rfl) ?_
    refine va_get (D := (dC, dI)) (ci := 2) (v := .int (ua 0 5)) (C := RX3) (T := TX3) (N := 13) hx hb hts iX3 hown hK hP 0 rfl rfl 8 (by decide) (hts _ (xm m87)) (fun _ h9 => h9) rfl dX3_stays_23 ?_
    refine lv_iload_n hx hb dX3_stays_26 rfl (lv_at hl 0 rfl) ?_
    refine lv_iconst (v := (-1)) hx hb dX3_stays_27 (by decide) ?_
    refine lv_ixor hx hb dX3_stays_28 ?_
    refine lv_iand hx hb dX3_stays_29 ?_
    obtain ⟨ua2, e_ua2⟩ : ∃ z, z = st ua 0 5 ((ua 0 5) &&& (v1 ^^^ (-1))) := ⟨_, rfl⟩
    replace hS := xmono (A := A) hS
    refine va_put (D := (dC, dI)) (ci := 2) (v := .int ((ua 0 5) &&& (v1 ^^^ (-1)))) (ty := .int) (C := RX3) (T := TX3) (N := 13) hx hb hts iX3 tyX3 tyX3_ok nmX3 hown hK hP hD hS 0 rfl rfl 8 (by decide) (hts _ (xm m87)) (fun _ h9 => h9) rfl (by decide +kernel) rfl rfl (Nat.le_of_ble_eq_true rfl) dX3_stays_30 (fun H locs hP hD hS => ?_)
    replace hw := hw ua2 e_ua2
    have hP : va_P (dC, dI) vwCl (w_br ga gl cA n ua2) H := by rw [e_ua2]; exact hP
    have hD : va_D A (w_br ga gl cA n ua2) := by rw [e_ua2]; exact hD
    refine vx_ret ?_
    exact W.vret hx hb hr (fun t ht hW => ⟨⟨ua2, rfl, hw, by rw [ht]; exact hP, va_K.moved hW.alike hK, hD⟩, hS.F ht⟩) hS.2.2 dX3_stays_33
  · replace hw := And.right hw c4
    refine lv_aload_n hx hb dX3_stays_13 rfl (lv_at hl 1 rfl) ?_
    refine va_get (D := (dC, dI)) (ci := 2) (v := .int (ua 0 5)) (C := RX3) (T := TX3) (N := 13) hx hb hts iX3 hown hK hP 0 rfl rfl 8 (by decide) (hts _ (xm m87)) (fun _ h9 => h9) rfl dX3_stays_14 ?_
    refine lv_iload_n hx hb dX3_stays_17 rfl (lv_at hl 0 rfl) ?_
    refine lv_ior hx hb dX3_stays_18 ?_
    refine lv_goto (tgt := 30) hx hb dX3_stays_19 (by decide) ?_
    obtain ⟨ua3, e_ua3⟩ : ∃ z, z = st ua 0 5 ((ua 0 5) ||| v1) := ⟨_, rfl⟩
    replace hS := xmono (A := A) hS
    refine va_put (D := (dC, dI)) (ci := 2) (v := .int ((ua 0 5) ||| v1)) (ty := .int) (C := RX3) (T := TX3) (N := 13) hx hb hts iX3 tyX3 tyX3_ok nmX3 hown hK hP hD hS 0 rfl rfl 8 (by decide) (hts _ (xm m87)) (fun _ h9 => h9) rfl (by decide +kernel) rfl rfl (Nat.le_of_ble_eq_true rfl) dX3_stays_30 (fun H locs hP hD hS => ?_)
    replace hw := hw ua3 e_ua3
    have hP : va_P (dC, dI) vwCl (w_br ga gl cA n ua3) H := by rw [e_ua3]; exact hP
    have hD : va_D A (w_br ga gl cA n ua3) := by rw [e_ua3]; exact hD
    refine vx_ret ?_
    exact W.vret hx hb hr (fun t ht hW => ⟨⟨ua3, rfl, hw, by rw [ht]; exact hP, va_K.moved hW.alike hK, hD⟩, hS.F ht⟩) hS.2.2 dX3_stays_33
abbrev wX3_cover : List Cond := Cond.code yX3_cover cX3_cover 4 none :: gG
def wp_X3_cover (n : Nat) (ua : Nat → Nat → Int32) (p0 : Int32) (p1 : Int32) (p2 : Int32) (P : (Nat → Nat → Int32) → Prop) (PX : String → Prop) : Prop :=
  wp_X3_needByte p2 (wp_X3_needPoint n ua p0 p1 ((vp_in ((p1 * (ua 0 0)) + p0) n ∧ ∀ ua1 : Nat → Nat → Int32, ua1 = st ua 1 ((p1 * (ua 0 0)) + p0).toNatClampNeg p2 → P ua1)) PX) PX
abbrev rm_X3_cover : Room := { frames := 8, cells := 2, slots := 12, locals := 125 }
set_option maxHeartbeats 4000000 in
set_option maxRecDepth 100000 in
theorem c_X3_cover (l : Launch) (hl0 : l.stackTraces = false) (dC : Nat → ClassId) (dI : Nat → Nat → Nat) (cA : Nat → ClassId) (sa : Nat → Nat) (ga : Nat → Nat) (gl : Nat → Nat → Nat) (n : Nat) (sz : Nat) (ua : Nat → Nat → Int32) (p0 : Int32) (p1 : Int32) (p2 : Int32) (P : (Nat → Nat → Int32) → Prop) (PX : String → Prop) (hw : wp_X3_cover n ua p0 p1 p2 P PX) : vx_Met l yX3_cover wX3_cover rm_X3_cover (xP2t dC dI cA sa (w_br ga gl cA n ua) sz [.ref (ga 0), .int p0, .int p1, .int p2]) (va_Qv (fun (u : (Nat → Nat → Int32)) => P u) (xB dC dI cA (fun u : (Nat → Nat → Int32) => w_br ga gl cA n u) (va_A (w_br ga gl cA n ua) sz)) (va_A (w_br ga gl cA n ua) sz)) (xX PX) 2 12 (va_A (w_br ga gl cA n ua) sz) := by
  refine vx_ofW (cc := cX3_cover) (maxL := 4) (ret := none) (by decide) rfl ?_
  intro p e s m args below meth c s₁ B hml hnoex hv
  obtain ⟨hargs, hsz, hP, hK, hD0, hE⟩ := hv
  have hx := B.exec
  have hb := B.bytes
  have hr := B.returns
  have hts := atoms_spec (ws := wX3_cover) B.pre
  have hown : s.vm.findClass RX3 = some m.cls := findClass_of_methodNamed B.named
  have hlocks := B.notSynchronized
  subst hsz
  have hD := hD0.self (sz := s.heap.size)
  generalize hAe : va_A (w_br ga gl cA n ua) s.heap.size = A at hD ⊢
  have hA : ∀ q : Nat, s.heap.size ≤ q → A q := fun q h => by rw [← hAe]; exact Or.inr h
  have hS : va_S (fun _ => False) s.heap s.heap [] := va_S.rf
  clear hAe hD0
  have hl := lv_entry ([.ref (ga 0), .int p0, .int p1, .int p2]) (n := 4) (Nat.le_of_ble_eq_true rfl)
  rw [show entryFrame m args 4 = entryFrame m (([.ref (ga 0), .int p0, .int p1, .int p2] : List Value).toArray) 4 from by rw [hargs], lg_entry_eq]
  generalize (lg_sl ([.ref (ga 0), .int p0, .int p1, .int p2]) ++ List.replicate (4 - (lg_sl ([.ref (ga 0), .int p0, .int p1, .int p2])).length) Slot.unset).toArray = ls at hl ⊢
  have hl : lv_has ls 4 [(0, .ref (ga 0)), (1, .int p0), (2, .int p1), (3, .int p2)] := hl
  have hP : va_P (dC, dI) vwCl (w_br ga gl cA n ua) s.heap := hP
  refine lv_iload_n hx hb dX3_cover_0 rfl (lv_at hl 3 rfl) ?_
  refine vx_callv (vx_runS (As := [.int p2]) (rest := []) ⟨hx, hb, hml, hown, hts⟩ (c_X3_needByte l hl0 sa p2 _ _ hw) (gcS 1 hts m295 m293 m294 m21 rfl rfl (by decide +kernel) ⟨Nat.le_of_ble_eq_true rfl, Nat.le_of_ble_eq_true rfl⟩) ⟨xbl0t, fun U hU hW => ⟨rfl, xEmv hE hW hS hU⟩⟩ rfl rfl hl.1 rfl (lv_room (Nat.le_of_ble_eq_true rfl)) dX3_cover_1 ⟨Nat.le_of_ble_eq_true rfl, Nat.le_of_ble_eq_true rfl⟩) hS (fun q _ h => h.elim) (fun q h => h.elim) (fun q _ h => h.elim) (fun E ce q9 u t H1 locs1 ht hvm hpx hB hz1 hk1 hS1 hce hcv hcl => ?_) (fun u t H1 locs ht hvm hw hB hz1 hk1 hS => ?_)
  · subst hB
    exact vx_out (fun x hx9 => (hnoex x hx9).elim) hlocks hce hcv hcl (fun t ht2 hvm2 => ⟨_, hpx, rfl, hS1.F ht2⟩) (fun z hz => (hS1.2.2 z hz).elim) (Nat.le_of_ble_eq_true rfl) (Nat.le_of_ble_eq_true rfl)
  replace hP := xkeep hP hk1
  clear ht hB hz1 hk1
  generalize H1 = H at hP hS ⊢
  refine lv_aload_n hx hb dX3_cover_4 rfl (lv_at hl 0 rfl) ?_
  refine lv_iload_n hx hb dX3_cover_5 rfl (lv_at hl 1 rfl) ?_
  refine lv_iload_n hx hb dX3_cover_6 rfl (lv_at hl 2 rfl) ?_
  have hPc : va_P (dC, dI) vwCl (w_br ga gl cA n ua) _ := hP
  refine vx_callv (vx_runV (As := [.int p0, .int p1]) (rest := []) ⟨hx, hb, hml, hown, hts⟩ (c_X3_needPoint l hl0 dC dI cA sa ga gl n ua p0 p1 _ _ hw) (gcV 2 hts m460 m457 m459 m7 m21 rfl rfl (by decide +kernel) ⟨Nat.le_of_ble_eq_true rfl, Nat.le_of_ble_eq_true rfl⟩) ⟨xbl1t, va_recv hK hPc (ci := 2) (q0 := 0) rfl rfl, fun U hU hW => ⟨rfl, by rw [hU]; exact hPc, va_K.moved hW.alike hK, xEmv hE hW hS hU⟩⟩ rfl rfl hl.1 rfl (lv_room (Nat.le_of_ble_eq_true rfl)) dX3_cover_7 ⟨Nat.le_of_ble_eq_true rfl, Nat.le_of_ble_eq_true rfl⟩) hS (fun q _ h => h.elim) (fun q h => h.elim) (fun q _ h => h.elim) (fun E ce q9 u t H1 locs1 ht hvm hpx hB hz1 hk1 hS1 hce hcv hcl => ?_) (fun u t H1 locs ht hvm hw hB hz1 hk1 hS => ?_)
  · subst hB
    exact vx_out (fun x hx9 => (hnoex x hx9).elim) hlocks hce hcv hcl (fun t ht2 hvm2 => ⟨_, hpx, rfl, hS1.F ht2⟩) (fun z hz => (hS1.2.2 z hz).elim) (Nat.le_of_ble_eq_true rfl) (Nat.le_of_ble_eq_true rfl)
  replace hP := xkeep hP hk1
  clear ht hB hz1 hk1 hPc
  generalize H1 = H at hP hS ⊢
  refine lv_aload_n hx hb dX3_cover_10 rfl (lv_at hl 0 rfl) ?_
  refine va_get (D := (dC, dI)) (ci := 2) (v := .ref (ga 1)) (C := RX3) (T := TX3) (N := 13) hx hb hts iX3 hown hK hP 0 rfl rfl 3 (by decide) (hts _ (xm m82)) (fun _ h9 => h9) rfl dX3_cover_11 ?_
  refine lv_iload_n hx hb dX3_cover_14 rfl (lv_at hl 2 rfl) ?_
  refine lv_aload_n hx hb dX3_cover_15 rfl (lv_at hl 0 rfl) ?_
  refine va_get (D := (dC, dI)) (ci := 2) (v := .int (ua 0 0)) (C := RX3) (T := TX3) (N := 13) hx hb hts iX3 hown hK hP 0 rfl rfl 0 (by decide) (hts _ (xm m79)) (fun _ h9 => h9) rfl dX3_cover_16 ?_
  refine lv_imul hx hb dX3_cover_19 ?_
  refine lv_iload_n hx hb dX3_cover_20 rfl (lv_at hl 1 rfl) ?_
  refine lv_iadd hx hb dX3_cover_21 ?_
  refine lv_iload_n hx hb dX3_cover_22 rfl (lv_at hl 3 rfl) ?_
  obtain ⟨ua1, e_ua1⟩ : ∃ z, z = st ua 1 ((p1 * (ua 0 0)) + p0).toNatClampNeg p2 := ⟨_, rfl⟩
  replace hS := xmono (A := A) hS
  refine va_iast hx hb hK hP hD hS 1 0 rfl rfl (And.left hw) dX3_cover_23 (fun H locs hP hD hS => ?_)
  replace hw := And.right hw
  replace hw := hw ua1 e_ua1
  have hP : va_P (dC, dI) vwCl (w_br ga gl cA n ua1) H := by rw [e_ua1]; exact hP
  have hD : va_D A (w_br ga gl cA n ua1) := by rw [e_ua1]; exact hD
  refine vx_ret ?_
  exact W.vret hx hb hr (fun t ht hW => ⟨⟨ua1, rfl, hw, by rw [ht]; exact hP, va_K.moved hW.alike hK, hD⟩, hS.F ht⟩) hS.2.2 dX3_cover_24
abbrev wX3_fill : List Cond := Cond.code yX3_fill cX3_fill 10 none :: gG
def wp_X3_fill_51 (n : Nat) (KX : (Nat → Nat → Int32) → Prop) (x1 : Int32) (x5 : Int32) (x6 : Int32) (x7 : Int32) (x8 : Int32) : Nat → (Nat → Nat → Int32) → Int32 → Prop
  | 0, _, _ => False
  | N51 + 1, ua, x9 =>
    ((x6 < x9 → KX ua) ∧
  (¬ x6 < x9 → (vp_in ((x8 * (ua 0 0)) + x9) n ∧ ∀ ua5 : Nat → Nat → Int32, ua5 = st ua 1 ((x8 * (ua 0 0)) + x9).toNatClampNeg x5 → ∀ v6 : Int32, v6 = x9 + 1 → wp_X3_fill_51 n KX x1 x5 x6 x7 x8 N51 ua5 v6)))
def wp_X3_fill_37 (n : Nat) (KX : (Nat → Nat → Int32) → Prop) (x1 : Int32) (x5 : Int32) (x6 : Int32) (x7 : Int32) : Nat → (Nat → Nat → Int32) → Int32 → Prop
  | 0, _, _ => False
  | N37 + 1, ua, x8 =>
    ((x7 < x8 → KX ua) ∧
  (¬ x7 < x8 → ∀ v4 : Int32, v4 = (if x1 < 0 then 0 else x1) → (∃ N51, wp_X3_fill_51 n (fun (ua8 : Nat → Nat → Int32) => ∀ v9 : Int32, v9 = x8 + 1 → wp_X3_fill_37 n KX x1 x5 x6 x7 N37 ua8 v9) x1 x5 x6 x7 x8 N51 ua v4)))
def wp_X3_fill (n : Nat) (ua : Nat → Nat → Int32) (p0 : Int32) (p1 : Int32) (p2 : Int32) (p3 : Int32) (p4 : Int32) (P : (Nat → Nat → Int32) → Prop) (PX : String → Prop) : Prop :=
  wp_X3_needByte p4 (∀ v1 : Int32, v1 = (if ((ua 0 0) - 1) < p2 then ((ua 0 0) - 1) else p2) → ∀ v2 : Int32, v2 = (if ((ua 0 1) - 1) < p3 then ((ua 0 1) - 1) else p3) → ∀ v3 : Int32, v3 = (if p1 < 0 then 0 else p1) → (∃ N37, wp_X3_fill_37 n (fun (ua11 : Nat → Nat → Int32) => P ua11) p0 p4 v1 v2 N37 ua v3)) PX
abbrev rm_X3_fill : Room := { frames := 7, cells := 1, slots := 6, locals := 110 }
set_option maxHeartbeats 4000000 in
set_option maxRecDepth 100000 in
theorem c_X3_fill (l : Launch) (hl0 : l.stackTraces = false) (dC : Nat → ClassId) (dI : Nat → Nat → Nat) (cA : Nat → ClassId) (sa : Nat → Nat) (ga : Nat → Nat) (gl : Nat → Nat → Nat) (n : Nat) (sz : Nat) (ua : Nat → Nat → Int32) (p0 : Int32) (p1 : Int32) (p2 : Int32) (p3 : Int32) (p4 : Int32) (P : (Nat → Nat → Int32) → Prop) (PX : String → Prop) (hw : wp_X3_fill n ua p0 p1 p2 p3 p4 P PX) : vx_Met l yX3_fill wX3_fill rm_X3_fill (xP2t dC dI cA sa (w_br ga gl cA n ua) sz [.ref (ga 0), .int p0, .int p1, .int p2, .int p3, .int p4]) (va_Qv (fun (u : (Nat → Nat → Int32)) => P u) (xB dC dI cA (fun u : (Nat → Nat → Int32) => w_br ga gl cA n u) (va_A (w_br ga gl cA n ua) sz)) (va_A (w_br ga gl cA n ua) sz)) (xX PX) 1 6 (va_A (w_br ga gl cA n ua) sz) := by
  refine vx_ofW (cc := cX3_fill) (maxL := 10) (ret := none) (by decide) rfl ?_
  intro p e s m args below meth c s₁ B hml hnoex hv
  obtain ⟨hargs, hsz, hP, hK, hD0, hE⟩ := hv
  have hx := B.exec
  have hb := B.bytes
  have hr := B.returns
  have hts := atoms_spec (ws := wX3_fill) B.pre
  have hown : s.vm.findClass RX3 = some m.cls := findClass_of_methodNamed B.named
  have hlocks := B.notSynchronized
  subst hsz
  have hD := hD0.self (sz := s.heap.size)
  generalize hAe : va_A (w_br ga gl cA n ua) s.heap.size = A at hD ⊢
  have hA : ∀ q : Nat, s.heap.size ≤ q → A q := fun q h => by rw [← hAe]; exact Or.inr h
  have hS : va_S (fun _ => False) s.heap s.heap [] := va_S.rf
  clear hAe hD0
  have L51 : ∀ (KX : (Nat → Nat → Int32) → Prop) (x1 : Int32) (x5 : Int32) (x6 : Int32) (x7 : Int32) (x8 : Int32), (∀ (ua : Nat → Nat → Int32), KX ua → ∀ (H : Heap) (locs : List Loc) (ls : Array Slot), va_P (dC, dI) vwCl (w_br ga gl cA n ua) H → va_D A (w_br ga gl cA n ua) → va_S A s.heap H locs → lv_has ls 10 [(0, .ref (ga 0)), (1, .int x1), (5, .int x5), (6, .int x6), (7, .int x7), (8, .int x8)] → W p l e (headSpec wX3_fill rm_X3_fill).room s m args below meth c H locs 1 6 (vx_MQ below (va_Qv (fun (u : (Nat → Nat → Int32)) => P u) (xB dC dI cA (fun u : (Nat → Nat → Int32) => w_br ga gl cA n u) A) A) (xX PX) args s 1 6 A) (F0 m 81 ls [])) → ∀ (N : Nat) (ua : Nat → Nat → Int32) (x9 : Int32), wp_X3_fill_51 n KX x1 x5 x6 x7 x8 N ua x9 → ∀ (H : Heap) (locs : List Loc) (ls : Array Slot), va_P (dC, dI) vwCl (w_br ga gl cA n ua) H → va_D A (w_br ga gl cA n ua) → va_S A s.heap H locs → lv_has ls 10 [(0, .ref (ga 0)), (1, .int x1), (5, .int x5), (6, .int x6), (7, .int x7), (8, .int x8), (9, .int x9)] → W p l e (headSpec wX3_fill rm_X3_fill).room s m args below meth c H locs 1 6 (vx_MQ below (va_Qv (fun (u : (Nat → Nat → Int32)) => P u) (xB dC dI cA (fun u : (Nat → Nat → Int32) => w_br ga gl cA n u) A) A) (xX PX) args s 1 6 A) (F0 m 51 ls []) := by
    intro KX x1 x5 x6 x7 x8 hx2 N51
    induction N51 with
    | zero =>
      intro ua x9 hw
      exact False.elim hw
    | succ N51 hk =>
      intro ua x9 hw H locs ls hP hD hS hl
      rw [wp_X3_fill_51] at hw
      refine lv_iload hx hb dX3_fill_51 (lv_at hl 6 rfl) ?_
      refine lv_iload hx hb dX3_fill_53 (lv_at hl 3 rfl) ?_
      refine lv_icmp_gt (tgt := 81) hx hb dX3_fill_55 (by decide) (fun c7 => ?_) (fun c7 => ?_)
      · replace hw := And.left hw c7
        exact hx2 _ hw _ _ _ hP hD hS (lv_sub hl [0, 1, 2, 3, 4, 5] rfl)
      · replace hw := And.right hw c7
        refine lv_aload_n hx hb dX3_fill_58 rfl (lv_at hl 0 rfl) ?_
        refine va_get (D := (dC, dI)) (ci := 2) (v := .ref (ga 1)) (C := RX3) (T := TX3) (N := 13) hx hb hts iX3 hown hK hP 0 rfl rfl 3 (by decide) (hts _ (xm m82)) (fun _ h9 => h9) rfl dX3_fill_59 ?_
        refine lv_iload hx hb dX3_fill_62 (lv_at hl 5 rfl) ?_
        refine lv_aload_n hx hb dX3_fill_64 rfl (lv_at hl 0 rfl) ?_
        refine va_get (D := (dC, dI)) (ci := 2) (v := .int (ua 0 0)) (C := RX3) (T := TX3) (N := 13) hx hb hts iX3 hown hK hP 0 rfl rfl 0 (by decide) (hts _ (xm m79)) (fun _ h9 => h9) rfl dX3_fill_65 ?_
        refine lv_imul hx hb dX3_fill_68 ?_
        refine lv_iload hx hb dX3_fill_69 (lv_at hl 6 rfl) ?_
        refine lv_iadd hx hb dX3_fill_71 ?_
        refine lv_iload hx hb dX3_fill_72 (lv_at hl 2 rfl) ?_
        obtain ⟨ua5, e_ua5⟩ : ∃ z, z = st ua 1 ((x8 * (ua 0 0)) + x9).toNatClampNeg x5 := ⟨_, rfl⟩
        refine va_iast hx hb hK hP hD hS 1 0 rfl rfl (And.left hw) dX3_fill_74 (fun H locs hP hD hS => ?_)
        replace hw := And.right hw
        replace hw := hw ua5 e_ua5
        have hP : va_P (dC, dI) vwCl (w_br ga gl cA n ua5) H := by rw [e_ua5]; exact hP
        have hD : va_D A (w_br ga gl cA n ua5) := by rw [e_ua5]; exact hD
        obtain ⟨v6, e_v6⟩ : ∃ y : Int32, y = x9 + 1 := ⟨_, rfl⟩
        replace hw := hw v6 e_v6
        refine lv_iinc (v := v6) (lv' := [(9, .int v6), (0, .ref (ga 0)), (1, .int x1), (5, .int x5), (6, .int x6), (7, .int x7), (8, .int x8)]) hx hb dX3_fill_75 hl (k := 6) rfl (by rw [e_v6]; rfl) (by decide) rfl (fun ls hl => ?_)
        refine lv_goto (tgt := 51) hx hb dX3_fill_78 (by decide) ?_
        exact hk _ _ hw _ _ _ hP hD hS (lv_sub hl [1, 2, 3, 4, 5, 6, 0] rfl)
  have L37 : ∀ (KX : (Nat → Nat → Int32) → Prop) (x1 : Int32) (x5 : Int32) (x6 : Int32) (x7 : Int32), (∀ (ua : Nat → Nat → Int32), KX ua → ∀ (H : Heap) (locs : List Loc) (ls : Array Slot), va_P (dC, dI) vwCl (w_br ga gl cA n ua) H → va_D A (w_br ga gl cA n ua) → va_S A s.heap H locs → lv_has ls 10 [] → W p l e (headSpec wX3_fill rm_X3_fill).room s m args below meth c H locs 1 6 (vx_MQ below (va_Qv (fun (u : (Nat → Nat → Int32)) => P u) (xB dC dI cA (fun u : (Nat → Nat → Int32) => w_br ga gl cA n u) A) A) (xX PX) args s 1 6 A) (F0 m 87 ls [])) → ∀ (N : Nat) (ua : Nat → Nat → Int32) (x8 : Int32), wp_X3_fill_37 n KX x1 x5 x6 x7 N ua x8 → ∀ (H : Heap) (locs : List Loc) (ls : Array Slot), va_P (dC, dI) vwCl (w_br ga gl cA n ua) H → va_D A (w_br ga gl cA n ua) → va_S A s.heap H locs → lv_has ls 10 [(0, .ref (ga 0)), (1, .int x1), (5, .int x5), (6, .int x6), (7, .int x7), (8, .int x8)] → W p l e (headSpec wX3_fill rm_X3_fill).room s m args below meth c H locs 1 6 (vx_MQ below (va_Qv (fun (u : (Nat → Nat → Int32)) => P u) (xB dC dI cA (fun u : (Nat → Nat → Int32) => w_br ga gl cA n u) A) A) (xX PX) args s 1 6 A) (F0 m 37 ls []) := by
    intro KX x1 x5 x6 x7 hx2 N37
    induction N37 with
    | zero =>
      intro ua x8 hw
      exact False.elim hw
    | succ N37 hk =>
      intro ua x8 hw H locs ls hP hD hS hl
      rw [wp_X3_fill_37] at hw
      refine lv_iload hx hb dX3_fill_37 (lv_at hl 5 rfl) ?_
      refine lv_iload hx hb dX3_fill_39 (lv_at hl 4 rfl) ?_
      refine lv_icmp_gt (tgt := 87) hx hb dX3_fill_41 (by decide) (fun c10 => ?_) (fun c10 => ?_)
      · replace hw := And.left hw c10
        exact hx2 _ hw _ _ _ hP hD hS (lv_sub hl [] rfl)
      · replace hw := And.right hw c10
        refine lv_iload_n hx hb dX3_fill_44 rfl (lv_at hl 1 rfl) ?_
        refine lv_iconst (v := 0) hx hb dX3_fill_45 (by decide) ?_
        refine va_mmax hx hb (hml.trans hl.1.symm) hown (hts _ (xm m46)) (hts _ (xm m47)) (hts _ (xm m22)) (hts _ (xm m48)) (Nat.le_of_ble_eq_true rfl) (Nat.le_of_ble_eq_true rfl) (Nat.le_of_ble_eq_true rfl) (Nat.le_of_ble_eq_true rfl) dX3_fill_46 ?_
        refine lv_topi (fun v4 e_v4 => ?_)
        replace hw := hw v4 e_v4
        refine lv_istore (lv' := [(9, .int v4), (0, .ref (ga 0)), (1, .int x1), (5, .int x5), (6, .int x6), (7, .int x7), (8, .int x8)]) hx hb dX3_fill_49 hl (by decide) rfl (fun ls hl => ?_)
        obtain ⟨N51, hw⟩ := hw
        refine L51 _ _ _ _ _ _ (fun ua8 hw H locs ls hP hD hS hl => ?_) N51 _ _ hw _ _ _ hP hD hS (lv_sub hl [1, 2, 3, 4, 5, 6, 0] rfl)
        obtain ⟨v9, e_v9⟩ : ∃ y : Int32, y = x8 + 1 := ⟨_, rfl⟩
        replace hw := hw v9 e_v9
        refine lv_iinc (v := v9) (lv' := [(8, .int v9), (0, .ref (ga 0)), (1, .int x1), (5, .int x5), (6, .int x6), (7, .int x7)]) hx hb dX3_fill_81 hl (k := 5) rfl (by rw [e_v9]; rfl) (by decide) rfl (fun ls hl => ?_)
        refine lv_goto (tgt := 37) hx hb dX3_fill_84 (by decide) ?_
        exact hk _ _ hw _ _ _ hP hD hS (lv_sub hl [1, 2, 3, 4, 5, 0] rfl)
  have hl := lv_entry ([.ref (ga 0), .int p0, .int p1, .int p2, .int p3, .int p4]) (n := 10) (Nat.le_of_ble_eq_true rfl)
  rw [show entryFrame m args 10 = entryFrame m (([.ref (ga 0), .int p0, .int p1, .int p2, .int p3, .int p4] : List Value).toArray) 10 from by rw [hargs], lg_entry_eq]
  generalize (lg_sl ([.ref (ga 0), .int p0, .int p1, .int p2, .int p3, .int p4]) ++ List.replicate (10 - (lg_sl ([.ref (ga 0), .int p0, .int p1, .int p2, .int p3, .int p4])).length) Slot.unset).toArray = ls at hl ⊢
  have hl : lv_has ls 10 [(0, .ref (ga 0)), (1, .int p0), (2, .int p1), (3, .int p2), (4, .int p3), (5, .int p4)] := hl
  have hP : va_P (dC, dI) vwCl (w_br ga gl cA n ua) s.heap := hP
  refine lv_iload hx hb dX3_fill_0 (lv_at hl 5 rfl) ?_
  refine vx_callv (vx_runS (As := [.int p4]) (rest := []) ⟨hx, hb, hml, hown, hts⟩ (c_X3_needByte l hl0 sa p4 _ _ hw) (gcS 1 hts m295 m293 m294 m21 rfl rfl (by decide +kernel) ⟨Nat.le_of_ble_eq_true rfl, Nat.le_of_ble_eq_true rfl⟩) ⟨xbl0t, fun U hU hW => ⟨rfl, xEmv hE hW hS hU⟩⟩ rfl rfl hl.1 rfl (lv_room (Nat.le_of_ble_eq_true rfl)) dX3_fill_2 ⟨Nat.le_of_ble_eq_true rfl, Nat.le_of_ble_eq_true rfl⟩) hS (fun q _ h => h.elim) (fun q h => h.elim) (fun q _ h => h.elim) (fun E ce q9 u t H1 locs1 ht hvm hpx hB hz1 hk1 hS1 hce hcv hcl => ?_) (fun u t H1 locs ht hvm hw hB hz1 hk1 hS => ?_)
  · subst hB
    exact vx_out (fun x hx9 => (hnoex x hx9).elim) hlocks hce hcv hcl (fun t ht2 hvm2 => ⟨_, hpx, rfl, hS1.F ht2⟩) (fun z hz => (hS1.2.2 z hz).elim) (Nat.le_of_ble_eq_true rfl) (Nat.le_of_ble_eq_true rfl)
  replace hP := xkeep hP hk1
  clear ht hB hz1 hk1
  generalize H1 = H at hP hS ⊢
  refine lv_iload_n hx hb dX3_fill_5 rfl (lv_at hl 3 rfl) ?_
  refine lv_aload_n hx hb dX3_fill_6 rfl (lv_at hl 0 rfl) ?_
  refine va_get (D := (dC, dI)) (ci := 2) (v := .int (ua 0 0)) (C := RX3) (T := TX3) (N := 13) hx hb hts iX3 hown hK hP 0 rfl rfl 0 (by decide) (hts _ (xm m79)) (fun _ h9 => h9) rfl dX3_fill_7 ?_
  refine lv_iconst (v := 1) hx hb dX3_fill_10 (by decide) ?_
  refine lv_isub hx hb dX3_fill_11 ?_
  refine va_mmin hx hb (hml.trans hl.1.symm) hown (hts _ (xm m43)) (hts _ (xm m44)) (hts _ (xm m22)) (hts _ (xm m45)) (Nat.le_of_ble_eq_true rfl) (Nat.le_of_ble_eq_true rfl) (Nat.le_of_ble_eq_true rfl) (Nat.le_of_ble_eq_true rfl) dX3_fill_12 ?_
  refine lv_topi (fun v1 e_v1 => ?_)
  replace hw := hw v1 e_v1
  refine lv_istore (lv' := [(6, .int v1), (0, .ref (ga 0)), (1, .int p0), (2, .int p1), (3, .int p2), (4, .int p3), (5, .int p4)]) hx hb dX3_fill_15 hl (by decide) rfl (fun ls hl => ?_)
  refine lv_iload hx hb dX3_fill_17 (lv_at hl 5 rfl) ?_
  refine lv_aload_n hx hb dX3_fill_19 rfl (lv_at hl 1 rfl) ?_
  refine va_get (D := (dC, dI)) (ci := 2) (v := .int (ua 0 1)) (C := RX3) (T := TX3) (N := 13) hx hb hts iX3 hown hK hP 0 rfl rfl 1 (by decide) (hts _ (xm m80)) (fun _ h9 => h9) rfl dX3_fill_20 ?_
  refine lv_iconst (v := 1) hx hb dX3_fill_23 (by decide) ?_
  refine lv_isub hx hb dX3_fill_24 ?_
  refine va_mmin hx hb (hml.trans hl.1.symm) hown (hts _ (xm m43)) (hts _ (xm m44)) (hts _ (xm m22)) (hts _ (xm m45)) (Nat.le_of_ble_eq_true rfl) (Nat.le_of_ble_eq_true rfl) (Nat.le_of_ble_eq_true rfl) (Nat.le_of_ble_eq_true rfl) dX3_fill_25 ?_
  refine lv_topi (fun v2 e_v2 => ?_)
  replace hw := hw v2 e_v2
  refine lv_istore (lv' := [(7, .int v2), (6, .int v1), (0, .ref (ga 0)), (1, .int p0), (2, .int p1), (3, .int p2), (4, .int p3), (5, .int p4)]) hx hb dX3_fill_28 hl (by decide) rfl (fun ls hl => ?_)
  refine lv_iload_n hx hb dX3_fill_30 rfl (lv_at hl 4 rfl) ?_
  refine lv_iconst (v := 0) hx hb dX3_fill_31 (by decide) ?_
  refine va_mmax hx hb (hml.trans hl.1.symm) hown (hts _ (xm m46)) (hts _ (xm m47)) (hts _ (xm m22)) (hts _ (xm m48)) (Nat.le_of_ble_eq_true rfl) (Nat.le_of_ble_eq_true rfl) (Nat.le_of_ble_eq_true rfl) (Nat.le_of_ble_eq_true rfl) dX3_fill_32 ?_
  refine lv_topi (fun v3 e_v3 => ?_)
  replace hw := hw v3 e_v3
  refine lv_istore (lv' := [(8, .int v3), (7, .int v2), (6, .int v1), (0, .ref (ga 0)), (1, .int p0), (2, .int p1), (3, .int p2), (4, .int p3), (5, .int p4)]) hx hb dX3_fill_35 hl (by decide) rfl (fun ls hl => ?_)
  replace hS := xmono (A := A) hS
  obtain ⟨N37, hw⟩ := hw
  refine L37 _ _ _ _ _ (fun ua11 hw H locs ls hP hD hS hl => ?_) N37 _ _ hw _ _ _ hP hD hS (lv_sub hl [3, 4, 8, 2, 1, 0] rfl)
  refine vx_ret ?_
  exact W.vret hx hb hr (fun t ht hW => ⟨⟨ua11, rfl, hw, by rw [ht]; exact hP, va_K.moved hW.alike hK, hD⟩, hS.F ht⟩) hS.2.2 dX3_fill_87
