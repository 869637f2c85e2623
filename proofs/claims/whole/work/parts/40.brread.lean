theorem m2 : Cond.selects RX3 yX3_here yX3_here ∈ gG := gG_mk (i := 2) (by decide +kernel) (by decide +kernel)
theorem m21 : Cond.initialized yX3_here.cls ∈ gG := gG_mk (i := 21) (by decide +kernel) (by decide +kernel)
theorem m83 : Cond.fieldLink RX3 32 "BlendRows" "maskBytes" "[I" ∈ gG := gG_mk (i := 83) (by decide +kernel) (by decide +kernel)
theorem m84 : Cond.fieldLink RX3 37 "BlendRows" "layers" "[LBlendRows$Layer;" ∈ gG := gG_mk (i := 84) (by decide +kernel) (by decide +kernel)
theorem m85 : Cond.fieldLink RX3 53 "BlendRows" "masked" "Z" ∈ gG := gG_mk (i := 85) (by decide +kernel) (by decide +kernel)
theorem m89 : Cond.fieldLink RX3 47 "BlendRows" "depth" "I" ∈ gG := gG_mk (i := 89) (by decide +kernel) (by decide +kernel)
theorem m90 : Cond.fieldLink RX3 50 "BlendRows" "realGroups" "I" ∈ gG := gG_mk (i := 90) (by decide +kernel) (by decide +kernel)
theorem m239 : Cond.methodLink RX3 78 yX3_here ∈ gG := gG_mk (i := 239) (by decide +kernel) (by decide +kernel)
theorem m241 : Cond.instanceMethod yX3_here ∈ gG := gG_mk (i := 241) (by decide +kernel) (by decide +kernel)
theorem m242 : Cond.code yX3_here cX3_here 1 (some (.object "BlendRows$Layer")) ∈ gG := gG_mk (i := 242) (by decide +kernel) (by decide +kernel)
theorem m309 : Cond.methodLink RX3 106 yX2_mul ∈ gG := gG_mk (i := 309) (by decide +kernel) (by decide +kernel)
abbrev wX3_hereIsFlat : List Cond := Cond.code yX3_hereIsFlat cX3_hereIsFlat 1 (some .boolean) :: gG
def wp_X3_hereIsFlat (n : Nat) (ua : Nat → Nat → Int32) (P : Int32 → Prop) : Prop :=
  (((ua 0 7) ≤ (ua 0 8) → P 0) ∧
  (¬ (ua 0 7) ≤ (ua 0 8) → P 1))
abbrev rm_X3_hereIsFlat : Room := { frames := 0, cells := 0, slots := 0, locals := 0 }
set_option maxHeartbeats 4000000 in
set_option maxRecDepth 100000 in
theorem c_X3_hereIsFlat (l : Launch) (dC : Nat → ClassId) (dI : Nat → Nat → Nat) (cA : Nat → ClassId) (ga : Nat → Nat) (gl : Nat → Nat → Nat) (n : Nat) (ua : Nat → Nat → Int32) (P : Int32 → Prop) (hw : wp_X3_hereIsFlat n ua P) : Met l yX3_hereIsFlat wX3_hereIsFlat rm_X3_hereIsFlat (xP1 dC dI cA (w_br ga gl cA n ua) [.ref (ga 0)]) (vp_Si P) 0 0 (fun _ => False) := by
  refine Met.ofW (cc := cX3_hereIsFlat) (maxL := 1) (ret := (some .boolean)) (by decide) rfl ?_
  intro p e s m args below meth c s₁ B hml hv
  obtain ⟨hargs, hP, hK⟩ := hv
  have hx := B.exec
  have hb := B.bytes
  have hr := B.returns
  have hts := atoms_spec (ws := wX3_hereIsFlat) B.pre
  have hown : s.vm.findClass RX3 = some m.cls := findClass_of_methodNamed B.named
  have hlocks := B.notSynchronized
  have hl := lv_entry ([.ref (ga 0)]) (n := 1) (Nat.le_of_ble_eq_true rfl)
  rw [show entryFrame m args 1 = entryFrame m (([.ref (ga 0)] : List Value).toArray) 1 from by rw [hargs], lg_entry_eq]
  generalize (lg_sl ([.ref (ga 0)]) ++ List.replicate (1 - (lg_sl ([.ref (ga 0)])).length) Slot.unset).toArray = ls at hl ⊢
  have hl : lv_has ls 1 [(0, .ref (ga 0))] := hl
  refine lv_aload_n hx hb dX3_hereIsFlat_0 rfl (lv_at hl 0 rfl) ?_
  refine va_get (D := (dC, dI)) (ci := 2) (v := .int (ua 0 7)) (C := RX3) (T := TX3) (N := 13) hx hb hts iX3 hown hK hP 0 rfl rfl 10 (by decide) (hts _ (xm m89)) (fun _ h9 => h9) rfl dX3_hereIsFlat_1 ?_
  refine lv_aload_n hx hb dX3_hereIsFlat_4 rfl (lv_at hl 0 rfl) ?_
  refine va_get (D := (dC, dI)) (ci := 2) (v := .int (ua 0 8)) (C := RX3) (T := TX3) (N := 13) hx hb hts iX3 hown hK hP 0 rfl rfl 11 (by decide) (hts _ (xm m90)) (fun _ h9 => h9) rfl dX3_hereIsFlat_5 ?_
  refine lv_icmp_le (tgt := 15) hx hb dX3_hereIsFlat_8 (by decide) (fun c1 => ?_) (fun c1 => ?_)
  · replace hw := And.left hw c1
    refine lv_iconst (v := 0) hx hb dX3_hereIsFlat_15 (by decide) ?_
    exact W.zret (ty := .boolean) hx hb hr rfl (fun t ht hW => ⟨_, rfl, hw, ht⟩) (fun q h => by cases h) dX3_hereIsFlat_16
  · replace hw := And.right hw c1
    refine lv_iconst (v := 1) hx hb dX3_hereIsFlat_11 (by decide) ?_
    refine lv_goto (tgt := 16) hx hb dX3_hereIsFlat_12 (by decide) ?_
    exact W.zret (ty := .boolean) hx hb hr rfl (fun t ht hW => ⟨_, rfl, hw, ht⟩) (fun q h => by cases h) dX3_hereIsFlat_16
abbrev wX3_here : List Cond := Cond.code yX3_here cX3_here 1 (some (.object "BlendRows$Layer")) :: gG
def wp_X3_here (n : Nat) (k : Nat) (ua : Nat → Nat → Int32) (P : Prop) : Prop :=
  (vp_in ((ua 0 8) - 1) 6 ∧ ((ua 0 8) - 1).toNatClampNeg = k ∧ P)
abbrev rm_X3_here : Room := { frames := 0, cells := 0, slots := 0, locals := 0 }
set_option maxHeartbeats 4000000 in
set_option maxRecDepth 100000 in
theorem c_X3_here (l : Launch) (dC : Nat → ClassId) (dI : Nat → Nat → Nat) (cA : Nat → ClassId) (ga : Nat → Nat) (gl : Nat → Nat → Nat) (n : Nat) (k : Nat) (ua : Nat → Nat → Int32) (P : Prop) (hw : wp_X3_here n k ua P) : Met l yX3_here wX3_here rm_X3_here (xP1 dC dI cA (w_br ga gl cA n ua) [.ref (ga 0)]) (xSr (fun q => q = (gl k 0) ∧ P)) 0 0 (fun _ => False) := by
  refine Met.ofW (cc := cX3_here) (maxL := 1) (ret := (some (.object "BlendRows$Layer"))) (by decide) rfl ?_
  intro p e s m args below meth c s₁ B hml hv
  obtain ⟨hargs, hP, hK⟩ := hv
  have hx := B.exec
  have hb := B.bytes
  have hr := B.returns
  have hts := atoms_spec (ws := wX3_here) B.pre
  have hown : s.vm.findClass RX3 = some m.cls := findClass_of_methodNamed B.named
  have hlocks := B.notSynchronized
  have hl := lv_entry ([.ref (ga 0)]) (n := 1) (Nat.le_of_ble_eq_true rfl)
  rw [show entryFrame m args 1 = entryFrame m (([.ref (ga 0)] : List Value).toArray) 1 from by rw [hargs], lg_entry_eq]
  generalize (lg_sl ([.ref (ga 0)]) ++ List.replicate (1 - (lg_sl ([.ref (ga 0)])).length) Slot.unset).toArray = ls at hl ⊢
  have hl : lv_has ls 1 [(0, .ref (ga 0))] := hl
  refine lv_aload_n hx hb dX3_here_0 rfl (lv_at hl 0 rfl) ?_
  refine va_get (D := (dC, dI)) (ci := 2) (v := .ref (ga 3)) (C := RX3) (T := TX3) (N := 13) hx hb hts iX3 hown hK hP 0 rfl rfl 5 (by decide) (hts _ (xm m84)) (fun _ h9 => h9) rfl dX3_here_1 ?_
  refine lv_aload_n hx hb dX3_here_4 rfl (lv_at hl 0 rfl) ?_
  refine va_get (D := (dC, dI)) (ci := 2) (v := .int (ua 0 8)) (C := RX3) (T := TX3) (N := 13) hx hb hts iX3 hown hK hP 0 rfl rfl 11 (by decide) (hts _ (xm m90)) (fun _ h9 => h9) rfl dX3_here_5 ?_
  refine lv_iconst (v := 1) hx hb dX3_here_8 (by decide) ?_
  refine lv_isub hx hb dX3_here_9 ?_
  refine va_aldq hx hb hK hP 3 2 rfl rfl (And.left hw) dX3_here_10 ?_
  replace hw := And.right hw
  refine xtopv (y := .ref (gl k 0)) (by show Value.ref (gl ((ua 0 8) - 1).toNatClampNeg 0) = _; rw [And.left hw]) ?_
  replace hw := And.right hw
  exact W.aret hx hb hr (Or.inl ⟨_, rfl⟩) (Or.inr ⟨_, rfl⟩) (fun t ht hW => ⟨_, rfl, ⟨rfl, hw⟩, ht⟩) (fun q h => by cases h) dX3_here_11
abbrev wX3_leave : List Cond := Cond.code yX3_leave cX3_leave 2 (some (.object "BlendRows$Layer")) :: gG
def wp_X3_leave (n : Nat) (k : Nat) (ua : Nat → Nat → Int32) (P : (Nat → Nat → Int32) → Prop) : Prop :=
  wp_X3_here n k ua (∀ ua2 : Nat → Nat → Int32, ua2 = st ua 0 8 ((ua 0 8) - 1) → P ua2)
abbrev rm_X3_leave : Room := { frames := 1, cells := 0, slots := 0, locals := 20 }
set_option maxHeartbeats 4000000 in
set_option maxRecDepth 100000 in
theorem c_X3_leave (l : Launch) (dC : Nat → ClassId) (dI : Nat → Nat → Nat) (cA : Nat → ClassId) (ga : Nat → Nat) (gl : Nat → Nat → Nat) (n : Nat) (k : Nat) (sz : Nat) (ua : Nat → Nat → Int32) (P : (Nat → Nat → Int32) → Prop) (hw : wp_X3_leave n k ua P) : Met l yX3_leave wX3_leave rm_X3_leave (xP2 dC dI cA (w_br ga gl cA n ua) sz [.ref (ga 0)]) (va_Qr (fun (u : (Nat → Nat → Int32)) => P u) (fun u q t => q = (gl k 0) ∧ xB dC dI cA (fun u : (Nat → Nat → Int32) => w_br ga gl cA n u) (va_A (w_br ga gl cA n ua) sz) u t) (va_A (w_br ga gl cA n ua) sz)) 0 0 (va_A (w_br ga gl cA n ua) sz) := by
  refine Met.ofW (cc := cX3_leave) (maxL := 2) (ret := (some (.object "BlendRows$Layer"))) (by decide) rfl ?_
  intro p e s m args below meth c s₁ B hml hv
  obtain ⟨hargs, hsz, hP, hK, hD0⟩ := hv
  have hx := B.exec
  have hb := B.bytes
  have hr := B.returns
  have hts := atoms_spec (ws := wX3_leave) B.pre
  have hown : s.vm.findClass RX3 = some m.cls := findClass_of_methodNamed B.named
  have hlocks := B.notSynchronized
  subst hsz
  have hD := hD0.self (sz := s.heap.size)
  generalize hAe : va_A (w_br ga gl cA n ua) s.heap.size = A at hD ⊢
  have hA : ∀ q : Nat, s.heap.size ≤ q → A q := fun q h => by rw [← hAe]; exact Or.inr h
  have hS : va_S A s.heap s.heap [] := va_S.rf
  clear hAe hD0
  have hl := lv_entry ([.ref (ga 0)]) (n := 2) (Nat.le_of_ble_eq_true rfl)
  rw [show entryFrame m args 2 = entryFrame m (([.ref (ga 0)] : List Value).toArray) 2 from by rw [hargs], lg_entry_eq]
  generalize (lg_sl ([.ref (ga 0)]) ++ List.replicate (2 - (lg_sl ([.ref (ga 0)])).length) Slot.unset).toArray = ls at hl ⊢
  have hl : lv_has ls 2 [(0, .ref (ga 0))] := hl
  have hP : va_P (dC, dI) vwCl (w_br ga gl cA n ua) s.heap := hP
  refine lv_aload_n hx hb dX3_leave_0 rfl (lv_at hl 0 rfl) ?_
  have hPc : va_P (dC, dI) vwCl (w_br ga gl cA n ua) _ := hP
  refine xcallSr (va_Run.run (va_runV (As := []) (rest := []) ⟨hx, hb, hml, hown, hts⟩ (c_X3_here l dC dI cA ga gl n k ua _ hw) (gcV 0 hts m242 m239 m241 m2 m21 rfl rfl (by decide +kernel) ⟨Nat.le_of_ble_eq_true rfl, Nat.le_of_ble_eq_true rfl⟩) ⟨xbl1, va_recv hK hPc (ci := 2) (q0 := 0) rfl rfl, fun U hU hW => ⟨rfl, by rw [hU]; exact hPc, va_K.moved hW.alike hK⟩⟩ rfl rfl hl.1 rfl (lv_room (Nat.le_of_ble_eq_true rfl)) dX3_leave_1 ⟨Nat.le_of_ble_eq_true rfl, Nat.le_of_ble_eq_true rfl⟩)) (fun r1 hw => ?_)
  obtain ⟨e_r1, hw⟩ := hw
  subst e_r1
  refine lv_astore_n (lv' := [(1, .ref (gl k 0)), (0, .ref (ga 0))]) hx hb dX3_leave_4 rfl hl (by decide) rfl (fun ls hl => ?_)
  refine lv_aload_n hx hb dX3_leave_5 rfl (lv_at hl 1 rfl) ?_
  refine lv_dup hx hb dX3_leave_6 rfl ?_
  refine va_get (D := (dC, dI)) (ci := 2) (v := .int (ua 0 8)) (C := RX3) (T := TX3) (N := 13) hx hb hts iX3 hown hK hP 0 rfl rfl 11 (by decide) (hts _ (xm m90)) (fun _ h9 => h9) rfl dX3_leave_7 ?_
  refine lv_iconst (v := 1) hx hb dX3_leave_10 (by decide) ?_
  refine lv_isub hx hb dX3_leave_11 ?_
  obtain ⟨ua2, e_ua2⟩ : ∃ z, z = st ua 0 8 ((ua 0 8) - 1) := ⟨_, rfl⟩
  refine va_put (D := (dC, dI)) (ci := 2) (v := .int ((ua 0 8) - 1)) (ty := .int) (C := RX3) (T := TX3) (N := 13) hx hb hts iX3 tyX3 tyX3_ok nmX3 hown hK hP hD hS 0 rfl rfl 11 (by decide) (hts _ (xm m90)) (fun _ h9 => h9) rfl (by decide +kernel) rfl rfl (Nat.le_of_ble_eq_true rfl) dX3_leave_12 (fun H locs hP hD hS => ?_)
  replace hw := hw ua2 e_ua2
  have hP : va_P (dC, dI) vwCl (w_br ga gl cA n ua2) H := by rw [e_ua2]; exact hP
  have hD : va_D A (w_br ga gl cA n ua2) := by rw [e_ua2]; exact hD
  refine lv_aload_n hx hb dX3_leave_15 rfl (lv_at hl 0 rfl) ?_
  exact W.aret hx hb hr (Or.inl ⟨_, rfl⟩) (Or.inr ⟨_, rfl⟩) (fun t ht hW => ⟨⟨ua2, _, rfl, hw, rfl, by rw [ht]; exact hP, va_K.moved hW.alike hK, hD⟩, hS.F ht⟩) hS.2.2 dX3_leave_16
abbrev wX3_leftByMask : List Cond := Cond.code yX3_leftByMask cX3_leftByMask 3 (some .int) :: gG
def wp_X3_leftByMask (n : Nat) (ua : Nat → Nat → Int32) (p0 : Int32) (p1 : Int32) (P : Int32 → Prop) : Prop :=
  (((ua 0 3) = 0 → P p1) ∧
  (¬ (ua 0 3) = 0 → (vp_in p0 n ∧ wp_X2_mul p1 (ua 2 p0.toNatClampNeg) (fun r1 => P r1))))
abbrev rm_X3_leftByMask : Room := { frames := 1, cells := 0, slots := 0, locals := 21 }
set_option maxHeartbeats 4000000 in
set_option maxRecDepth 100000 in
theorem c_X3_leftByMask (l : Launch) (dC : Nat → ClassId) (dI : Nat → Nat → Nat) (cA : Nat → ClassId) (ga : Nat → Nat) (gl : Nat → Nat → Nat) (n : Nat) (ua : Nat → Nat → Int32) (p0 : Int32) (p1 : Int32) (P : Int32 → Prop) (hw : wp_X3_leftByMask n ua p0 p1 P) : Met l yX3_leftByMask wX3_leftByMask rm_X3_leftByMask (xP1 dC dI cA (w_br ga gl cA n ua) [.ref (ga 0), .int p0, .int p1]) (vp_Si P) 0 0 (fun _ => False) := by
  refine Met.ofW (cc := cX3_leftByMask) (maxL := 3) (ret := (some .int)) (by decide) rfl ?_
  intro p e s m args below meth c s₁ B hml hv
  obtain ⟨hargs, hP, hK⟩ := hv
  have hx := B.exec
  have hb := B.bytes
  have hr := B.returns
  have hts := atoms_spec (ws := wX3_leftByMask) B.pre
  have hown : s.vm.findClass RX3 = some m.cls := findClass_of_methodNamed B.named
  have hlocks := B.notSynchronized
  have hl := lv_entry ([.ref (ga 0), .int p0, .int p1]) (n := 3) (Nat.le_of_ble_eq_true rfl)
  rw [show entryFrame m args 3 = entryFrame m (([.ref (ga 0), .int p0, .int p1] : List Value).toArray) 3 from by rw [hargs], lg_entry_eq]
  generalize (lg_sl ([.ref (ga 0), .int p0, .int p1]) ++ List.replicate (3 - (lg_sl ([.ref (ga 0), .int p0, .int p1])).length) Slot.unset).toArray = ls at hl ⊢
  have hl : lv_has ls 3 [(0, .ref (ga 0)), (1, .int p0), (2, .int p1)] := hl
  refine lv_aload_n hx hb dX3_leftByMask_0 rfl (lv_at hl 0 rfl) ?_
  refine va_get (D := (dC, dI)) (ci := 2) (v := .int (ua 0 3)) (C := RX3) (T := TX3) (N := 13) hx hb hts iX3 hown hK hP 0 rfl rfl 6 (by decide) (hts _ (xm m85)) (fun _ h9 => h9) rfl dX3_leftByMask_1 ?_
  refine lv_if_eq (tgt := 20) hx hb dX3_leftByMask_4 (by decide) (fun c2 => ?_) (fun c2 => ?_)
  · replace hw := And.left hw c2
    refine lv_iload_n hx hb dX3_leftByMask_20 rfl (lv_at hl 2 rfl) ?_
    exact W.iret hx hb hr (fun t ht hW => ⟨_, rfl, hw, ht⟩) (fun q h => by cases h) dX3_leftByMask_21
  · replace hw := And.right hw c2
    refine lv_iload_n hx hb dX3_leftByMask_7 rfl (lv_at hl 2 rfl) ?_
    refine lv_aload_n hx hb dX3_leftByMask_8 rfl (lv_at hl 0 rfl) ?_
    refine va_get (D := (dC, dI)) (ci := 2) (v := .ref (ga 2)) (C := RX3) (T := TX3) (N := 13) hx hb hts iX3 hown hK hP 0 rfl rfl 4 (by decide) (hts _ (xm m83)) (fun _ h9 => h9) rfl dX3_leftByMask_9 ?_
    refine lv_iload_n hx hb dX3_leftByMask_12 rfl (lv_at hl 1 rfl) ?_
    refine va_iald hx hb hK hP 2 0 rfl rfl (And.left hw) dX3_leftByMask_13 ?_
    replace hw := And.right hw
    refine vp_callSi (va_Run.run (va_runS (As := [.int p1, .int (ua 2 p0.toNatClampNeg)]) (rest := []) ⟨hx, hb, hml, hown, hts⟩ (c_X2_mul l p1 (ua 2 p0.toNatClampNeg) _ hw) (gcS 2 hts m260 m309 m259 m30 rfl rfl (by decide +kernel) ⟨Nat.le_of_ble_eq_true rfl, Nat.le_of_ble_eq_true rfl⟩) ⟨xbl0, fun U hU hW => ⟨rfl, trivial⟩⟩ rfl rfl hl.1 rfl (lv_room (Nat.le_of_ble_eq_true rfl)) dX3_leftByMask_14 ⟨Nat.le_of_ble_eq_true rfl, Nat.le_of_ble_eq_true rfl⟩)) (fun r1 hw => ?_)
    refine lv_goto (tgt := 21) hx hb dX3_leftByMask_17 (by decide) ?_
    exact W.iret hx hb hr (fun t ht hW => ⟨_, rfl, hw, ht⟩) (fun q h => by cases h) dX3_leftByMask_21
