theorem m754 : Cond.constant RX4 167 16777215 ∈ gG := gG_mk (i := 754) (by decide +kernel) (by decide +kernel)
abbrev wX4_point : List Cond := Cond.code yX4_point cX4_point 4 (some .int) :: gG
def wp_X4_point_22 (P : Int32 → (Nat → Nat → Int32) → Prop) (um : Nat → Nat → Int32) (x1 : Int32) (x2 : Int32) (x3 : Int32) (s0 : Int32) : Prop :=
  ∀ um2 : Nat → Nat → Int32, um2 = st um 0 0 s0 → (((um2 0 0) ≤ 0 → wp_X4_here um2 (fun r3 => wp_X4_pointAt um2 x1 x2 (fun r4 => (vp_in (((432 * r3) + (3 * r4)) + x3) 3456 ∧ P (um2 5 (((432 * r3) + (3 * r4)) + x3).toNatClampNeg) um2)))) ∧
  (¬ (um2 0 0) ≤ 0 → P 0 um2))
def wp_X4_point_21 (P : Int32 → (Nat → Nat → Int32) → Prop) (um : Nat → Nat → Int32) (x1 : Int32) (x2 : Int32) (x3 : Int32) : Prop :=
  wp_X4_point_22 P um x1 x2 x3 1
def wp_X4_point (um : Nat → Nat → Int32) (p0 : Int32) (p1 : Int32) (p2 : Int32) (P : Int32 → (Nat → Nat → Int32) → Prop) : Prop :=
  wp_X4_isPoint um p0 p1 (fun r1 => ((r1 = 0 → wp_X4_point_21 P um p0 p1 p2) ∧
  (¬ r1 = 0 → wp_X4_isBand p2 (fun r6 => ((r6 = 0 → wp_X4_point_21 P um p0 p1 p2) ∧
  (¬ r6 = 0 → wp_X4_point_22 P um p0 p1 p2 0))))))
abbrev rm_X4_point : Room := { frames := 1, cells := 0, slots := 0, locals := 22 }
set_option maxHeartbeats 4000000 in
set_option maxRecDepth 100000 in
theorem c_X4_point (l : Launch) (dC : Nat → ClassId) (dI : Nat → Nat → Nat) (cA : Nat → ClassId) (gm : Nat → Nat) (sz : Nat) (um : Nat → Nat → Int32) (p0 : Int32) (p1 : Int32) (p2 : Int32) (P : Int32 → (Nat → Nat → Int32) → Prop) (hw : wp_X4_point um p0 p1 p2 P) : Met l yX4_point wX4_point rm_X4_point (xP2 dC dI cA (w_md gm cA um) sz [.ref (gm 0), .int p0, .int p1, .int p2]) (va_Qi (fun r (u : (Nat → Nat → Int32)) => P r u) (xB dC dI cA (fun u : (Nat → Nat → Int32) => w_md gm cA u) (va_A (w_md gm cA um) sz)) (va_A (w_md gm cA um) sz)) 0 0 (va_A (w_md gm cA um) sz) := by
  refine Met.ofW (cc := cX4_point) (maxL := 4) (ret := (some .int)) (by decide) rfl ?_
  intro p e s m args below meth c s₁ B hml hv
  obtain ⟨hargs, hsz, hP, hK, hD0⟩ := hv
  have hx := B.exec
  have hb := B.bytes
  have hr := B.returns
  have hts := atoms_spec (ws := wX4_point) B.pre
  have hown : s.vm.findClass RX4 = some m.cls := findClass_of_methodNamed B.named
  have hlocks := B.notSynchronized
  subst hsz
  have hD := hD0.self (sz := s.heap.size)
  generalize hAe : va_A (w_md gm cA um) s.heap.size = A at hD ⊢
  have hA : ∀ q : Nat, s.heap.size ≤ q → A q := fun q h => by rw [← hAe]; exact Or.inr h
  have hS : va_S A s.heap s.heap [] := va_S.rf
  clear hAe hD0
  have J22 : ∀ (um : Nat → Nat → Int32) (x1 : Int32) (x2 : Int32) (x3 : Int32) (s0 : Int32), wp_X4_point_22 P um x1 x2 x3 s0 → ∀ (H : Heap) (locs : List Loc) (ls : Array Slot), va_P (dC, dI) vwCl (w_md gm cA um) H → va_D A (w_md gm cA um) → va_S A s.heap H locs → lv_has ls 4 [(0, .ref (gm 0)), (1, .int x1), (2, .int x2), (3, .int x3)] → W p l e (headSpec wX4_point rm_X4_point).room s m args below meth c H locs 0 0 (MQ below (va_Qi (fun r (u : (Nat → Nat → Int32)) => P r u) (xB dC dI cA (fun u : (Nat → Nat → Int32) => w_md gm cA u) A) A) args s 0 0 A) (F0 m 22 ls [.int s0, .ref (gm 0)]) := by
    intro  um x1 x2 x3 s0 hw H locs ls hP hD hS hl
    obtain ⟨um2, e_um2⟩ : ∃ z, z = st um 0 0 s0 := ⟨_, rfl⟩
    refine va_put (D := (dC, dI)) (ci := 3) (v := .int s0) (ty := .int) (C := RX4) (T := TX4) (N := 23) hx hb hts iX4 tyX4 tyX4_ok nmX4 hown hK hP hD hS 0 rfl rfl 0 (by decide) (hts _ (xm m528)) (fun _ h9 => h9) rfl (by decide +kernel) rfl rfl (Nat.le_of_ble_eq_true rfl) dX4_point_22 (fun H locs hP hD hS => ?_)
    replace hw := hw um2 e_um2
    have hP : va_P (dC, dI) vwCl (w_md gm cA um2) H := by rw [e_um2]; exact hP
    have hD : va_D A (w_md gm cA um2) := by rw [e_um2]; exact hD
    refine lv_aload_n hx hb dX4_point_25 rfl (lv_at hl 0 rfl) ?_
    refine va_get (D := (dC, dI)) (ci := 3) (v := .int (um2 0 0)) (C := RX4) (T := TX4) (N := 23) hx hb hts iX4 hown hK hP 0 rfl rfl 0 (by decide) (hts _ (xm m528)) (fun _ h9 => h9) rfl dX4_point_26 ?_
    refine lv_if_le (tgt := 36) hx hb dX4_point_29 (by decide) (fun c5 => ?_) (fun c5 => ?_)
    · replace hw := And.left hw c5
      refine lv_aload_n hx hb dX4_point_36 rfl (lv_at hl 0 rfl) ?_
      refine va_get (D := (dC, dI)) (ci := 3) (v := .ref (gm 5)) (C := RX4) (T := TX4) (N := 23) hx hb hts iX4 hown hK hP 0 rfl rfl 10 (by decide) (hts _ (xm m538)) (fun _ h9 => h9) rfl dX4_point_37 ?_
      refine lv_sipush (v := 432) hx hb dX4_point_40 (by decide) ?_
      refine lv_aload_n hx hb dX4_point_43 rfl (lv_at hl 0 rfl) ?_
      have hPc : va_P (dC, dI) vwCl (w_md gm cA um2) _ := hP
      refine vp_callSi (va_Run.run (va_runV (As := []) (rest := [.int 432, .ref (gm 5)]) ⟨hx, hb, hml, hown, hts⟩ (c_X4_here l dC dI cA gm um2 _ hw) (gcV 0 hts m733 m730 m732 m19 m24 rfl rfl (by decide +kernel) ⟨Nat.le_of_ble_eq_true rfl, Nat.le_of_ble_eq_true rfl⟩) ⟨xbl1, va_recv hK hPc (ci := 3) (q0 := 0) rfl rfl, fun U hU hW => ⟨rfl, by rw [hU]; exact hPc, va_K.moved hW.alike hK⟩⟩ rfl rfl hl.1 rfl (lv_room (Nat.le_of_ble_eq_true rfl)) dX4_point_44 ⟨Nat.le_of_ble_eq_true rfl, Nat.le_of_ble_eq_true rfl⟩)) (fun r3 hw => ?_)
      refine lv_imul hx hb dX4_point_47 ?_
      refine lv_iconst (v := 3) hx hb dX4_point_48 (by decide) ?_
      refine lv_aload_n hx hb dX4_point_49 rfl (lv_at hl 0 rfl) ?_
      refine lv_iload_n hx hb dX4_point_50 rfl (lv_at hl 1 rfl) ?_
      refine lv_iload_n hx hb dX4_point_51 rfl (lv_at hl 2 rfl) ?_
      have hPc : va_P (dC, dI) vwCl (w_md gm cA um2) _ := hP
      refine vp_callSi (va_Run.run (va_runV (As := [.int x1, .int x2]) (rest := [.int 3, .int (432 * r3), .ref (gm 5)]) ⟨hx, hb, hml, hown, hts⟩ (c_X4_pointAt l dC dI cA gm um2 x1 x2 _ hw) (gcV 2 hts m636 m633 m635 m10 m24 rfl rfl (by decide +kernel) ⟨Nat.le_of_ble_eq_true rfl, Nat.le_of_ble_eq_true rfl⟩) ⟨xbl1, va_recv hK hPc (ci := 3) (q0 := 0) rfl rfl, fun U hU hW => ⟨rfl, by rw [hU]; exact hPc, va_K.moved hW.alike hK⟩⟩ rfl rfl hl.1 rfl (lv_room (Nat.le_of_ble_eq_true rfl)) dX4_point_52 ⟨Nat.le_of_ble_eq_true rfl, Nat.le_of_ble_eq_true rfl⟩)) (fun r4 hw => ?_)
      refine lv_imul hx hb dX4_point_55 ?_
      refine lv_iadd hx hb dX4_point_56 ?_
      refine lv_iload_n hx hb dX4_point_57 rfl (lv_at hl 3 rfl) ?_
      refine lv_iadd hx hb dX4_point_58 ?_
      refine va_iald hx hb hK hP 5 0 rfl rfl (And.left hw) dX4_point_59 ?_
      replace hw := And.right hw
      exact W.iret hx hb hr (fun t ht hW => ⟨⟨_, um2, rfl, hw, by rw [ht]; exact hP, va_K.moved hW.alike hK, hD⟩, hS.F ht⟩) hS.2.2 dX4_point_60
    · replace hw := And.right hw c5
      refine lv_iconst (v := 0) hx hb dX4_point_32 (by decide) ?_
      refine lv_goto (tgt := 60) hx hb dX4_point_33 (by decide) ?_
      exact W.iret hx hb hr (fun t ht hW => ⟨⟨_, um2, rfl, hw, by rw [ht]; exact hP, va_K.moved hW.alike hK, hD⟩, hS.F ht⟩) hS.2.2 dX4_point_60
  have J21 : ∀ (um : Nat → Nat → Int32) (x1 : Int32) (x2 : Int32) (x3 : Int32), wp_X4_point_21 P um x1 x2 x3 → ∀ (H : Heap) (locs : List Loc) (ls : Array Slot), va_P (dC, dI) vwCl (w_md gm cA um) H → va_D A (w_md gm cA um) → va_S A s.heap H locs → lv_has ls 4 [(0, .ref (gm 0)), (1, .int x1), (2, .int x2), (3, .int x3)] → W p l e (headSpec wX4_point rm_X4_point).room s m args below meth c H locs 0 0 (MQ below (va_Qi (fun r (u : (Nat → Nat → Int32)) => P r u) (xB dC dI cA (fun u : (Nat → Nat → Int32) => w_md gm cA u) A) A) args s 0 0 A) (F0 m 21 ls [.ref (gm 0)]) := by
    intro  um x1 x2 x3 hw H locs ls hP hD hS hl
    refine lv_iconst (v := 1) hx hb dX4_point_21 (by decide) ?_
    exact J22 _ _ _ _ _ hw _ _ _ hP hD hS (lv_sub hl [0, 1, 2, 3] rfl)
  have hl := lv_entry ([.ref (gm 0), .int p0, .int p1, .int p2]) (n := 4) (Nat.le_of_ble_eq_true rfl)
  rw [show entryFrame m args 4 = entryFrame m (([.ref (gm 0), .int p0, .int p1, .int p2] : List Value).toArray) 4 from by rw [hargs], lg_entry_eq]
  generalize (lg_sl ([.ref (gm 0), .int p0, .int p1, .int p2]) ++ List.replicate (4 - (lg_sl ([.ref (gm 0), .int p0, .int p1, .int p2])).length) Slot.unset).toArray = ls at hl ⊢
  have hl : lv_has ls 4 [(0, .ref (gm 0)), (1, .int p0), (2, .int p1), (3, .int p2)] := hl
  have hP : va_P (dC, dI) vwCl (w_md gm cA um) s.heap := hP
  refine lv_aload_n hx hb dX4_point_0 rfl (lv_at hl 0 rfl) ?_
  refine lv_aload_n hx hb dX4_point_1 rfl (lv_at hl 0 rfl) ?_
  refine lv_iload_n hx hb dX4_point_2 rfl (lv_at hl 1 rfl) ?_
  refine lv_iload_n hx hb dX4_point_3 rfl (lv_at hl 2 rfl) ?_
  have hPc : va_P (dC, dI) vwCl (w_md gm cA um) _ := hP
  refine vp_callSi (va_Run.run (va_runV (As := [.int p0, .int p1]) (rest := [.ref (gm 0)]) ⟨hx, hb, hml, hown, hts⟩ (c_X4_isPoint l dC dI cA gm um p0 p1 _ hw) (gcV 2 hts m721 m718 m720 m18 m24 rfl rfl (by decide +kernel) ⟨Nat.le_of_ble_eq_true rfl, Nat.le_of_ble_eq_true rfl⟩) ⟨xbl1, va_recv hK hPc (ci := 3) (q0 := 0) rfl rfl, fun U hU hW => ⟨rfl, by rw [hU]; exact hPc, va_K.moved hW.alike hK⟩⟩ rfl rfl hl.1 rfl (lv_room (Nat.le_of_ble_eq_true rfl)) dX4_point_4 ⟨Nat.le_of_ble_eq_true rfl, Nat.le_of_ble_eq_true rfl⟩)) (fun r1 hw => ?_)
  refine lv_if_eq (tgt := 21) hx hb dX4_point_7 (by decide) (fun c8 => ?_) (fun c8 => ?_)
  · replace hw := And.left hw c8
    exact J21 _ _ _ _ hw _ _ _ hP hD hS (lv_sub hl [0, 1, 2, 3] rfl)
  · replace hw := And.right hw c8
    refine lv_iload_n hx hb dX4_point_10 rfl (lv_at hl 3 rfl) ?_
    refine vp_callSi (va_Run.run (va_runS (As := [.int p2]) (rest := [.ref (gm 0)]) ⟨hx, hb, hml, hown, hts⟩ (c_X4_isBand l p2 _ hw) (gcS 1 hts m709 m707 m708 m24 rfl rfl (by decide +kernel) ⟨Nat.le_of_ble_eq_true rfl, Nat.le_of_ble_eq_true rfl⟩) ⟨xbl0, fun U hU hW => ⟨rfl, trivial⟩⟩ rfl rfl hl.1 rfl (lv_room (Nat.le_of_ble_eq_true rfl)) dX4_point_11 ⟨Nat.le_of_ble_eq_true rfl, Nat.le_of_ble_eq_true rfl⟩)) (fun r6 hw => ?_)
    refine lv_if_eq (tgt := 21) hx hb dX4_point_14 (by decide) (fun c7 => ?_) (fun c7 => ?_)
    · replace hw := And.left hw c7
      exact J21 _ _ _ _ hw _ _ _ hP hD hS (lv_sub hl [0, 1, 2, 3] rfl)
    · replace hw := And.right hw c7
      refine lv_iconst (v := 0) hx hb dX4_point_17 (by decide) ?_
      refine lv_goto (tgt := 22) hx hb dX4_point_18 (by decide) ?_
      exact J22 _ _ _ _ _ hw _ _ _ hP hD hS (lv_sub hl [0, 1, 2, 3] rfl)
abbrev wX4_alpha : List Cond := Cond.code yX4_alpha cX4_alpha 6 (some .int) :: gG
def wp_X4_alpha_28 (P : Int32 → (Nat → Nat → Int32) → Prop) (um : Nat → Nat → Int32) (x1 : Int32) (x2 : Int32) (x3 : Int32) (s0 : Int32) : Prop :=
  ∀ um2 : Nat → Nat → Int32, um2 = st um 0 0 s0 → (((um2 0 0) ≤ 0 → wp_X4_pointAt um2 x1 x2 (fun r3 => wp_X4_here um2 (fun r4 => ∀ v5 : Int32, v5 = ((144 * r4) + r3) → ((3 ≤ x3 → ((¬ x3 = 4 → (((um2 0 6) = 0 → P 255 um2) ∧
  (¬ (um2 0 6) = 0 → (vp_in r3 144 ∧ P (um2 8 r3.toNatClampNeg) um2)))) ∧
  (x3 = 4 → (vp_in r3 144 ∧ P (um2 9 r3.toNatClampNeg) um2)))) ∧
  (¬ 3 ≤ x3 → ((¬ x3 = 0 → ((¬ x3 = 1 → wp_X4_here um2 (fun r8 => wp_X4_alphaOf um2 r8 r3 (fun r9 => P r9 um2))) ∧
  (x3 = 1 → (vp_in v5 1152 ∧ P (um2 7 v5.toNatClampNeg) um2)))) ∧
  (x3 = 0 → (vp_in v5 1152 ∧ P (um2 6 v5.toNatClampNeg) um2)))))))) ∧
  (¬ (um2 0 0) ≤ 0 → P 0 um2))
def wp_X4_alpha_23 (P : Int32 → (Nat → Nat → Int32) → Prop) (um : Nat → Nat → Int32) (x1 : Int32) (x2 : Int32) (x3 : Int32) : Prop :=
  wp_X4_alpha_28 P um x1 x2 x3 2
def wp_X4_alpha (um : Nat → Nat → Int32) (p0 : Int32) (p1 : Int32) (p2 : Int32) (P : Int32 → (Nat → Nat → Int32) → Prop) : Prop :=
  wp_X4_isPoint um p0 p1 (fun r1 => ((¬ r1 = 0 → ((p2 < 0 → wp_X4_alpha_23 P um p0 p1 p2) ∧
  (¬ p2 < 0 → ((p2 ≤ 4 → wp_X4_alpha_28 P um p0 p1 p2 0) ∧
  (¬ p2 ≤ 4 → wp_X4_alpha_23 P um p0 p1 p2))))) ∧
  (r1 = 0 → wp_X4_alpha_28 P um p0 p1 p2 1)))
abbrev rm_X4_alpha : Room := { frames := 2, cells := 0, slots := 0, locals := 45 }
set_option maxHeartbeats 4000000 in
set_option maxRecDepth 100000 in
theorem c_X4_alpha (l : Launch) (dC : Nat → ClassId) (dI : Nat → Nat → Nat) (cA : Nat → ClassId) (gm : Nat → Nat) (sz : Nat) (um : Nat → Nat → Int32) (p0 : Int32) (p1 : Int32) (p2 : Int32) (P : Int32 → (Nat → Nat → Int32) → Prop) (hw : wp_X4_alpha um p0 p1 p2 P) : Met l yX4_alpha wX4_alpha rm_X4_alpha (xP2 dC dI cA (w_md gm cA um) sz [.ref (gm 0), .int p0, .int p1, .int p2]) (va_Qi (fun r (u : (Nat → Nat → Int32)) => P r u) (xB dC dI cA (fun u : (Nat → Nat → Int32) => w_md gm cA u) (va_A (w_md gm cA um) sz)) (va_A (w_md gm cA um) sz)) 0 0 (va_A (w_md gm cA um) sz) := by
  refine Met.ofW (cc := cX4_alpha) (maxL := 6) (ret := (some .int)) (by decide) rfl ?_
  intro p e s m args below meth c s₁ B hml hv
  obtain ⟨hargs, hsz, hP, hK, hD0⟩ := hv
  have hx := B.exec
  have hb := B.bytes
  have hr := B.returns
  have hts := atoms_spec (ws := wX4_alpha) B.pre
  have hown : s.vm.findClass RX4 = some m.cls := findClass_of_methodNamed B.named
  have hlocks := B.notSynchronized
  subst hsz
  have hD := hD0.self (sz := s.heap.size)
  generalize hAe : va_A (w_md gm cA um) s.heap.size = A at hD ⊢
  have hA : ∀ q : Nat, s.heap.size ≤ q → A q := fun q h => by rw [← hAe]; exact Or.inr h
  have hS : va_S A s.heap s.heap [] := va_S.rf
  clear hAe hD0
  have J28 : ∀ (um : Nat → Nat → Int32) (x1 : Int32) (x2 : Int32) (x3 : Int32) (s0 : Int32), wp_X4_alpha_28 P um x1 x2 x3 s0 → ∀ (H : Heap) (locs : List Loc) (ls : Array Slot), va_P (dC, dI) vwCl (w_md gm cA um) H → va_D A (w_md gm cA um) → va_S A s.heap H locs → lv_has ls 6 [(0, .ref (gm 0)), (1, .int x1), (2, .int x2), (3, .int x3)] → W p l e (headSpec wX4_alpha rm_X4_alpha).room s m args below meth c H locs 0 0 (MQ below (va_Qi (fun r (u : (Nat → Nat → Int32)) => P r u) (xB dC dI cA (fun u : (Nat → Nat → Int32) => w_md gm cA u) A) A) args s 0 0 A) (F0 m 28 ls [.int s0, .ref (gm 0)]) := by
    intro  um x1 x2 x3 s0 hw H locs ls hP hD hS hl
    obtain ⟨um2, e_um2⟩ : ∃ z, z = st um 0 0 s0 := ⟨_, rfl⟩
    refine va_put (D := (dC, dI)) (ci := 3) (v := .int s0) (ty := .int) (C := RX4) (T := TX4) (N := 23) hx hb hts iX4 tyX4 tyX4_ok nmX4 hown hK hP hD hS 0 rfl rfl 0 (by decide) (hts _ (xm m528)) (fun _ h9 => h9) rfl (by decide +kernel) rfl rfl (Nat.le_of_ble_eq_true rfl) dX4_alpha_28 (fun H locs hP hD hS => ?_)
    replace hw := hw um2 e_um2
    have hP : va_P (dC, dI) vwCl (w_md gm cA um2) H := by rw [e_um2]; exact hP
    have hD : va_D A (w_md gm cA um2) := by rw [e_um2]; exact hD
    refine lv_aload_n hx hb dX4_alpha_31 rfl (lv_at hl 0 rfl) ?_
    refine va_get (D := (dC, dI)) (ci := 3) (v := .int (um2 0 0)) (C := RX4) (T := TX4) (N := 23) hx hb hts iX4 hown hK hP 0 rfl rfl 0 (by decide) (hts _ (xm m528)) (fun _ h9 => h9) rfl dX4_alpha_32 ?_
    refine lv_if_le (tgt := 40) hx hb dX4_alpha_35 (by decide) (fun c13 => ?_) (fun c13 => ?_)
    · replace hw := And.left hw c13
      refine lv_aload_n hx hb dX4_alpha_40 rfl (lv_at hl 0 rfl) ?_
      refine lv_iload_n hx hb dX4_alpha_41 rfl (lv_at hl 1 rfl) ?_
      refine lv_iload_n hx hb dX4_alpha_42 rfl (lv_at hl 2 rfl) ?_
      have hPc : va_P (dC, dI) vwCl (w_md gm cA um2) _ := hP
      refine vp_callSi (va_Run.run (va_runV (As := [.int x1, .int x2]) (rest := []) ⟨hx, hb, hml, hown, hts⟩ (c_X4_pointAt l dC dI cA gm um2 x1 x2 _ hw) (gcV 2 hts m636 m633 m635 m10 m24 rfl rfl (by decide +kernel) ⟨Nat.le_of_ble_eq_true rfl, Nat.le_of_ble_eq_true rfl⟩) ⟨xbl1, va_recv hK hPc (ci := 3) (q0 := 0) rfl rfl, fun U hU hW => ⟨rfl, by rw [hU]; exact hPc, va_K.moved hW.alike hK⟩⟩ rfl rfl hl.1 rfl (lv_room (Nat.le_of_ble_eq_true rfl)) dX4_alpha_43 ⟨Nat.le_of_ble_eq_true rfl, Nat.le_of_ble_eq_true rfl⟩)) (fun r3 hw => ?_)
      refine lv_istore (lv' := [(4, .int r3), (0, .ref (gm 0)), (1, .int x1), (2, .int x2), (3, .int x3)]) hx hb dX4_alpha_46 hl (by decide) rfl (fun ls hl => ?_)
      refine lv_sipush (v := 144) hx hb dX4_alpha_48 (by decide) ?_
      refine lv_aload_n hx hb dX4_alpha_51 rfl (lv_at hl 1 rfl) ?_
      have hPc : va_P (dC, dI) vwCl (w_md gm cA um2) _ := hP
      refine vp_callSi (va_Run.run (va_runV (As := []) (rest := [.int 144]) ⟨hx, hb, hml, hown, hts⟩ (c_X4_here l dC dI cA gm um2 _ hw) (gcV 0 hts m733 m730 m732 m19 m24 rfl rfl (by decide +kernel) ⟨Nat.le_of_ble_eq_true rfl, Nat.le_of_ble_eq_true rfl⟩) ⟨xbl1, va_recv hK hPc (ci := 3) (q0 := 0) rfl rfl, fun U hU hW => ⟨rfl, by rw [hU]; exact hPc, va_K.moved hW.alike hK⟩⟩ rfl rfl hl.1 rfl (lv_room (Nat.le_of_ble_eq_true rfl)) dX4_alpha_52 ⟨Nat.le_of_ble_eq_true rfl, Nat.le_of_ble_eq_true rfl⟩)) (fun r4 hw => ?_)
      refine lv_imul hx hb dX4_alpha_55 ?_
      refine lv_iload hx hb dX4_alpha_56 (lv_at hl 0 rfl) ?_
      refine lv_iadd hx hb dX4_alpha_58 ?_
      refine lv_topi (fun v5 e_v5 => ?_)
      replace hw := hw v5 e_v5
      refine lv_istore (lv' := [(5, .int v5), (4, .int r3), (0, .ref (gm 0)), (1, .int x1), (2, .int x2), (3, .int x3)]) hx hb dX4_alpha_59 hl (by decide) rfl (fun ls hl => ?_)
      refine lv_iload_n hx hb dX4_alpha_61 rfl (lv_at hl 5 rfl) ?_
      refine lv_iconst (v := 3) hx hb dX4_alpha_62 (by decide) ?_
      refine lv_icmp_ge (tgt := 106) hx hb dX4_alpha_63 (by decide) (fun c12 => ?_) (fun c12 => ?_)
      · replace hw := And.left hw c12
        refine lv_iload_n hx hb dX4_alpha_106 rfl (lv_at hl 5 rfl) ?_
        refine lv_iconst (v := 4) hx hb dX4_alpha_107 (by decide) ?_
        refine lv_icmp_ne (tgt := 121) hx hb dX4_alpha_108 (by decide) (fun c7 => ?_) (fun c7 => ?_)
        · replace hw := And.left hw c7
          refine lv_aload_n hx hb dX4_alpha_121 rfl (lv_at hl 2 rfl) ?_
          refine va_get (D := (dC, dI)) (ci := 3) (v := .int (um2 0 6)) (C := RX4) (T := TX4) (N := 23) hx hb hts iX4 hown hK hP 0 rfl rfl 13 (by decide) (hts _ (xm m541)) (fun _ h9 => h9) rfl dX4_alpha_122 ?_
          refine lv_if_eq (tgt := 138) hx hb dX4_alpha_125 (by decide) (fun c6 => ?_) (fun c6 => ?_)
          · replace hw := And.left hw c6
            refine lv_sipush (v := 255) hx hb dX4_alpha_138 (by decide) ?_
            exact W.iret hx hb hr (fun t ht hW => ⟨⟨_, um2, rfl, hw, by rw [ht]; exact hP, va_K.moved hW.alike hK, hD⟩, hS.F ht⟩) hS.2.2 dX4_alpha_141
          · replace hw := And.right hw c6
            refine lv_aload_n hx hb dX4_alpha_128 rfl (lv_at hl 2 rfl) ?_
            refine va_get (D := (dC, dI)) (ci := 3) (v := .ref (gm 8)) (C := RX4) (T := TX4) (N := 23) hx hb hts iX4 hown hK hP 0 rfl rfl 14 (by decide) (hts _ (xm m542)) (fun _ h9 => h9) rfl dX4_alpha_129 ?_
            refine lv_iload hx hb dX4_alpha_132 (lv_at hl 1 rfl) ?_
            refine va_iald hx hb hK hP 8 0 rfl rfl (And.left hw) dX4_alpha_134 ?_
            replace hw := And.right hw
            refine lv_goto (tgt := 141) hx hb dX4_alpha_135 (by decide) ?_
            exact W.iret hx hb hr (fun t ht hW => ⟨⟨_, um2, rfl, hw, by rw [ht]; exact hP, va_K.moved hW.alike hK, hD⟩, hS.F ht⟩) hS.2.2 dX4_alpha_141
        · replace hw := And.right hw c7
          refine lv_aload_n hx hb dX4_alpha_111 rfl (lv_at hl 2 rfl) ?_
          refine va_get (D := (dC, dI)) (ci := 3) (v := .ref (gm 9)) (C := RX4) (T := TX4) (N := 23) hx hb hts iX4 hown hK hP 0 rfl rfl 15 (by decide) (hts _ (xm m543)) (fun _ h9 => h9) rfl dX4_alpha_112 ?_
          refine lv_iload hx hb dX4_alpha_115 (lv_at hl 1 rfl) ?_
          refine va_iald hx hb hK hP 9 0 rfl rfl (And.left hw) dX4_alpha_117 ?_
          replace hw := And.right hw
          refine lv_goto (tgt := 141) hx hb dX4_alpha_118 (by decide) ?_
          exact W.iret hx hb hr (fun t ht hW => ⟨⟨_, um2, rfl, hw, by rw [ht]; exact hP, va_K.moved hW.alike hK, hD⟩, hS.F ht⟩) hS.2.2 dX4_alpha_141
      · replace hw := And.right hw c12
        refine lv_iload_n hx hb dX4_alpha_66 rfl (lv_at hl 5 rfl) ?_
        refine lv_if_ne (tgt := 80) hx hb dX4_alpha_67 (by decide) (fun c11 => ?_) (fun c11 => ?_)
        · replace hw := And.left hw c11
          refine lv_iload_n hx hb dX4_alpha_80 rfl (lv_at hl 5 rfl) ?_
          refine lv_iconst (v := 1) hx hb dX4_alpha_81 (by decide) ?_
          refine lv_icmp_ne (tgt := 95) hx hb dX4_alpha_82 (by decide) (fun c10 => ?_) (fun c10 => ?_)
          · replace hw := And.left hw c10
            refine lv_aload_n hx hb dX4_alpha_95 rfl (lv_at hl 2 rfl) ?_
            refine lv_aload_n hx hb dX4_alpha_96 rfl (lv_at hl 2 rfl) ?_
            have hPc : va_P (dC, dI) vwCl (w_md gm cA um2) _ := hP
            refine vp_callSi (va_Run.run (va_runV (As := []) (rest := [.ref (gm 0)]) ⟨hx, hb, hml, hown, hts⟩ (c_X4_here l dC dI cA gm um2 _ hw) (gcV 0 hts m733 m730 m732 m19 m24 rfl rfl (by decide +kernel) ⟨Nat.le_of_ble_eq_true rfl, Nat.le_of_ble_eq_true rfl⟩) ⟨xbl1, va_recv hK hPc (ci := 3) (q0 := 0) rfl rfl, fun U hU hW => ⟨rfl, by rw [hU]; exact hPc, va_K.moved hW.alike hK⟩⟩ rfl rfl hl.1 rfl (lv_room (Nat.le_of_ble_eq_true rfl)) dX4_alpha_97 ⟨Nat.le_of_ble_eq_true rfl, Nat.le_of_ble_eq_true rfl⟩)) (fun r8 hw => ?_)
            refine lv_iload hx hb dX4_alpha_100 (lv_at hl 1 rfl) ?_
            have hPc : va_P (dC, dI) vwCl (w_md gm cA um2) _ := hP
            refine vp_callSi (va_Run.run (va_runV (As := [.int r8, .int r3]) (rest := []) ⟨hx, hb, hml, hown, hts⟩ (c_X4_alphaOf l dC dI cA gm um2 r8 r3 _ hw) (gcV 2 hts m618 m615 m617 m8 m24 rfl rfl (by decide +kernel) ⟨Nat.le_of_ble_eq_true rfl, Nat.le_of_ble_eq_true rfl⟩) ⟨xbl1, va_recv hK hPc (ci := 3) (q0 := 0) rfl rfl, fun U hU hW => ⟨rfl, by rw [hU]; exact hPc, va_K.moved hW.alike hK⟩⟩ rfl rfl hl.1 rfl (lv_room (Nat.le_of_ble_eq_true rfl)) dX4_alpha_102 ⟨Nat.le_of_ble_eq_true rfl, Nat.le_of_ble_eq_true rfl⟩)) (fun r9 hw => ?_)
            exact W.iret hx hb hr (fun t ht hW => ⟨⟨_, um2, rfl, hw, by rw [ht]; exact hP, va_K.moved hW.alike hK, hD⟩, hS.F ht⟩) hS.2.2 dX4_alpha_105
          · replace hw := And.right hw c10
            refine lv_aload_n hx hb dX4_alpha_85 rfl (lv_at hl 2 rfl) ?_
            refine va_get (D := (dC, dI)) (ci := 3) (v := .ref (gm 7)) (C := RX4) (T := TX4) (N := 23) hx hb hts iX4 hown hK hP 0 rfl rfl 12 (by decide) (hts _ (xm m540)) (fun _ h9 => h9) rfl dX4_alpha_86 ?_
            refine lv_iload hx hb dX4_alpha_89 (lv_at hl 0 rfl) ?_
            refine va_iald hx hb hK hP 7 0 rfl rfl (And.left hw) dX4_alpha_91 ?_
            replace hw := And.right hw
            refine lv_goto (tgt := 105) hx hb dX4_alpha_92 (by decide) ?_
            exact W.iret hx hb hr (fun t ht hW => ⟨⟨_, um2, rfl, hw, by rw [ht]; exact hP, va_K.moved hW.alike hK, hD⟩, hS.F ht⟩) hS.2.2 dX4_alpha_105
        · replace hw := And.right hw c11
          refine lv_aload_n hx hb dX4_alpha_70 rfl (lv_at hl 2 rfl) ?_
          refine va_get (D := (dC, dI)) (ci := 3) (v := .ref (gm 6)) (C := RX4) (T := TX4) (N := 23) hx hb hts iX4 hown hK hP 0 rfl rfl 11 (by decide) (hts _ (xm m539)) (fun _ h9 => h9) rfl dX4_alpha_71 ?_
          refine lv_iload hx hb dX4_alpha_74 (lv_at hl 0 rfl) ?_
          refine va_iald hx hb hK hP 6 0 rfl rfl (And.left hw) dX4_alpha_76 ?_
          replace hw := And.right hw
          refine lv_goto (tgt := 105) hx hb dX4_alpha_77 (by decide) ?_
          exact W.iret hx hb hr (fun t ht hW => ⟨⟨_, um2, rfl, hw, by rw [ht]; exact hP, va_K.moved hW.alike hK, hD⟩, hS.F ht⟩) hS.2.2 dX4_alpha_105
    · replace hw := And.right hw c13
      refine lv_iconst (v := 0) hx hb dX4_alpha_38 (by decide) ?_
      exact W.iret hx hb hr (fun t ht hW => ⟨⟨_, um2, rfl, hw, by rw [ht]; exact hP, va_K.moved hW.alike hK, hD⟩, hS.F ht⟩) hS.2.2 dX4_alpha_39
  have J23 : ∀ (um : Nat → Nat → Int32) (x1 : Int32) (x2 : Int32) (x3 : Int32), wp_X4_alpha_23 P um x1 x2 x3 → ∀ (H : Heap) (locs : List Loc) (ls : Array Slot), va_P (dC, dI) vwCl (w_md gm cA um) H → va_D A (w_md gm cA um) → va_S A s.heap H locs → lv_has ls 6 [(0, .ref (gm 0)), (1, .int x1), (2, .int x2), (3, .int x3)] → W p l e (headSpec wX4_alpha rm_X4_alpha).room s m args below meth c H locs 0 0 (MQ below (va_Qi (fun r (u : (Nat → Nat → Int32)) => P r u) (xB dC dI cA (fun u : (Nat → Nat → Int32) => w_md gm cA u) A) A) args s 0 0 A) (F0 m 23 ls [.ref (gm 0)]) := by
    intro  um x1 x2 x3 hw H locs ls hP hD hS hl
    refine lv_iconst (v := 2) hx hb dX4_alpha_23 (by decide) ?_
    refine lv_goto (tgt := 28) hx hb dX4_alpha_24 (by decide) ?_
    exact J28 _ _ _ _ _ hw _ _ _ hP hD hS (lv_sub hl [0, 1, 2, 3] rfl)
  have hl := lv_entry ([.ref (gm 0), .int p0, .int p1, .int p2]) (n := 6) (Nat.le_of_ble_eq_true rfl)
  rw [show entryFrame m args 6 = entryFrame m (([.ref (gm 0), .int p0, .int p1, .int p2] : List Value).toArray) 6 from by rw [hargs], lg_entry_eq]
  generalize (lg_sl ([.ref (gm 0), .int p0, .int p1, .int p2]) ++ List.replicate (6 - (lg_sl ([.ref (gm 0), .int p0, .int p1, .int p2])).length) Slot.unset).toArray = ls at hl ⊢
  have hl : lv_has ls 6 [(0, .ref (gm 0)), (1, .int p0), (2, .int p1), (3, .int p2)] := hl
  have hP : va_P (dC, dI) vwCl (w_md gm cA um) s.heap := hP
  refine lv_aload_n hx hb dX4_alpha_0 rfl (lv_at hl 0 rfl) ?_
  refine lv_aload_n hx hb dX4_alpha_1 rfl (lv_at hl 0 rfl) ?_
  refine lv_iload_n hx hb dX4_alpha_2 rfl (lv_at hl 1 rfl) ?_
  refine lv_iload_n hx hb dX4_alpha_3 rfl (lv_at hl 2 rfl) ?_
  have hPc : va_P (dC, dI) vwCl (w_md gm cA um) _ := hP
  refine vp_callSi (va_Run.run (va_runV (As := [.int p0, .int p1]) (rest := [.ref (gm 0)]) ⟨hx, hb, hml, hown, hts⟩ (c_X4_isPoint l dC dI cA gm um p0 p1 _ hw) (gcV 2 hts m721 m718 m720 m18 m24 rfl rfl (by decide +kernel) ⟨Nat.le_of_ble_eq_true rfl, Nat.le_of_ble_eq_true rfl⟩) ⟨xbl1, va_recv hK hPc (ci := 3) (q0 := 0) rfl rfl, fun U hU hW => ⟨rfl, by rw [hU]; exact hPc, va_K.moved hW.alike hK⟩⟩ rfl rfl hl.1 rfl (lv_room (Nat.le_of_ble_eq_true rfl)) dX4_alpha_4 ⟨Nat.le_of_ble_eq_true rfl, Nat.le_of_ble_eq_true rfl⟩)) (fun r1 hw => ?_)
  refine lv_if_ne (tgt := 14) hx hb dX4_alpha_7 (by decide) (fun c16 => ?_) (fun c16 => ?_)
  · replace hw := And.left hw c16
    refine lv_iload_n hx hb dX4_alpha_14 rfl (lv_at hl 3 rfl) ?_
    refine lv_if_lt (tgt := 23) hx hb dX4_alpha_15 (by decide) (fun c15 => ?_) (fun c15 => ?_)
    · replace hw := And.left hw c15
      exact J23 _ _ _ _ hw _ _ _ hP hD hS (lv_sub hl [0, 1, 2, 3] rfl)
    · replace hw := And.right hw c15
      refine lv_iload_n hx hb dX4_alpha_18 rfl (lv_at hl 3 rfl) ?_
      refine lv_iconst (v := 4) hx hb dX4_alpha_19 (by decide) ?_
      refine lv_icmp_le (tgt := 27) hx hb dX4_alpha_20 (by decide) (fun c14 => ?_) (fun c14 => ?_)
      · replace hw := And.left hw c14
        refine lv_iconst (v := 0) hx hb dX4_alpha_27 (by decide) ?_
        exact J28 _ _ _ _ _ hw _ _ _ hP hD hS (lv_sub hl [0, 1, 2, 3] rfl)
      · replace hw := And.right hw c14
        exact J23 _ _ _ _ hw _ _ _ hP hD hS (lv_sub hl [0, 1, 2, 3] rfl)
  · replace hw := And.right hw c16
    refine lv_iconst (v := 1) hx hb dX4_alpha_10 (by decide) ?_
    refine lv_goto (tgt := 28) hx hb dX4_alpha_11 (by decide) ?_
    exact J28 _ _ _ _ _ hw _ _ _ hP hD hS (lv_sub hl [0, 1, 2, 3] rfl)
abbrev wX4_paper : List Cond := Cond.code yX4_paper cX4_paper 5 (some .int) :: gG
def wp_X4_paper_22 (P : Int32 → (Nat → Nat → Int32) → Prop) (um : Nat → Nat → Int32) (x1 : Int32) (x2 : Int32) (x3 : Int32) (s0 : Int32) : Prop :=
  ∀ um2 : Nat → Nat → Int32, um2 = st um 0 0 s0 → (((um2 0 0) ≤ 0 → wp_X4_here um2 (fun r3 => wp_X4_pointAt um2 x1 x2 (fun r4 => wp_X4_alphaOf um2 r3 r4 (fun r5 => wp_X4_here um2 (fun r6 => wp_X4_pointAt um2 x1 x2 (fun r7 => (vp_in (((432 * r6) + (3 * r7)) + x3) 3456 ∧ wp_X4_mul (um2 5 (((432 * r6) + (3 * r7)) + x3).toNatClampNeg) r5 (fun r8 => P ((r8 + 255) - r5) um2)))))))) ∧
  (¬ (um2 0 0) ≤ 0 → P 0 um2))
def wp_X4_paper_21 (P : Int32 → (Nat → Nat → Int32) → Prop) (um : Nat → Nat → Int32) (x1 : Int32) (x2 : Int32) (x3 : Int32) : Prop :=
  wp_X4_paper_22 P um x1 x2 x3 1
def wp_X4_paper (um : Nat → Nat → Int32) (p0 : Int32) (p1 : Int32) (p2 : Int32) (P : Int32 → (Nat → Nat → Int32) → Prop) : Prop :=
  wp_X4_isPoint um p0 p1 (fun r1 => ((r1 = 0 → wp_X4_paper_21 P um p0 p1 p2) ∧
  (¬ r1 = 0 → wp_X4_isBand p2 (fun r10 => ((r10 = 0 → wp_X4_paper_21 P um p0 p1 p2) ∧
  (¬ r10 = 0 → wp_X4_paper_22 P um p0 p1 p2 0))))))
abbrev rm_X4_paper : Room := { frames := 2, cells := 0, slots := 0, locals := 45 }
set_option maxHeartbeats 4000000 in
set_option maxRecDepth 100000 in
theorem c_X4_paper (l : Launch) (dC : Nat → ClassId) (dI : Nat → Nat → Nat) (cA : Nat → ClassId) (gm : Nat → Nat) (sz : Nat) (um : Nat → Nat → Int32) (p0 : Int32) (p1 : Int32) (p2 : Int32) (P : Int32 → (Nat → Nat → Int32) → Prop) (hw : wp_X4_paper um p0 p1 p2 P) : Met l yX4_paper wX4_paper rm_X4_paper (xP2 dC dI cA (w_md gm cA um) sz [.ref (gm 0), .int p0, .int p1, .int p2]) (va_Qi (fun r (u : (Nat → Nat → Int32)) => P r u) (xB dC dI cA (fun u : (Nat → Nat → Int32) => w_md gm cA u) (va_A (w_md gm cA um) sz)) (va_A (w_md gm cA um) sz)) 0 0 (va_A (w_md gm cA um) sz) := by
  refine Met.ofW (cc := cX4_paper) (maxL := 5) (ret := (some .int)) (by decide) rfl ?_
  intro p e s m args below meth c s₁ B hml hv
  obtain ⟨hargs, hsz, hP, hK, hD0⟩ := hv
  have hx := B.exec
  have hb := B.bytes
  have hr := B.returns
  have hts := atoms_spec (ws := wX4_paper) B.pre
  have hown : s.vm.findClass RX4 = some m.cls := findClass_of_methodNamed B.named
  have hlocks := B.notSynchronized
  subst hsz
  have hD := hD0.self (sz := s.heap.size)
  generalize hAe : va_A (w_md gm cA um) s.heap.size = A at hD ⊢
  have hA : ∀ q : Nat, s.heap.size ≤ q → A q := fun q h => by rw [← hAe]; exact Or.inr h
  have hS : va_S A s.heap s.heap [] := va_S.rf
  clear hAe hD0
  have J22 : ∀ (um : Nat → Nat → Int32) (x1 : Int32) (x2 : Int32) (x3 : Int32) (s0 : Int32), wp_X4_paper_22 P um x1 x2 x3 s0 → ∀ (H : Heap) (locs : List Loc) (ls : Array Slot), va_P (dC, dI) vwCl (w_md gm cA um) H → va_D A (w_md gm cA um) → va_S A s.heap H locs → lv_has ls 5 [(0, .ref (gm 0)), (1, .int x1), (2, .int x2), (3, .int x3)] → W p l e (headSpec wX4_paper rm_X4_paper).room s m args below meth c H locs 0 0 (MQ below (va_Qi (fun r (u : (Nat → Nat → Int32)) => P r u) (xB dC dI cA (fun u : (Nat → Nat → Int32) => w_md gm cA u) A) A) args s 0 0 A) (F0 m 22 ls [.int s0, .ref (gm 0)]) := by
    intro  um x1 x2 x3 s0 hw H locs ls hP hD hS hl
    obtain ⟨um2, e_um2⟩ : ∃ z, z = st um 0 0 s0 := ⟨_, rfl⟩
    refine va_put (D := (dC, dI)) (ci := 3) (v := .int s0) (ty := .int) (C := RX4) (T := TX4) (N := 23) hx hb hts iX4 tyX4 tyX4_ok nmX4 hown hK hP hD hS 0 rfl rfl 0 (by decide) (hts _ (xm m528)) (fun _ h9 => h9) rfl (by decide +kernel) rfl rfl (Nat.le_of_ble_eq_true rfl) dX4_paper_22 (fun H locs hP hD hS => ?_)
    replace hw := hw um2 e_um2
    have hP : va_P (dC, dI) vwCl (w_md gm cA um2) H := by rw [e_um2]; exact hP
    have hD : va_D A (w_md gm cA um2) := by rw [e_um2]; exact hD
    refine lv_aload_n hx hb dX4_paper_25 rfl (lv_at hl 0 rfl) ?_
    refine va_get (D := (dC, dI)) (ci := 3) (v := .int (um2 0 0)) (C := RX4) (T := TX4) (N := 23) hx hb hts iX4 hown hK hP 0 rfl rfl 0 (by decide) (hts _ (xm m528)) (fun _ h9 => h9) rfl dX4_paper_26 ?_
    refine lv_if_le (tgt := 34) hx hb dX4_paper_29 (by decide) (fun c9 => ?_) (fun c9 => ?_)
    · replace hw := And.left hw c9
      refine lv_aload_n hx hb dX4_paper_34 rfl (lv_at hl 0 rfl) ?_
      refine lv_aload_n hx hb dX4_paper_35 rfl (lv_at hl 0 rfl) ?_
      have hPc : va_P (dC, dI) vwCl (w_md gm cA um2) _ := hP
      refine vp_callSi (va_Run.run (va_runV (As := []) (rest := [.ref (gm 0)]) ⟨hx, hb, hml, hown, hts⟩ (c_X4_here l dC dI cA gm um2 _ hw) (gcV 0 hts m733 m730 m732 m19 m24 rfl rfl (by decide +kernel) ⟨Nat.le_of_ble_eq_true rfl, Nat.le_of_ble_eq_true rfl⟩) ⟨xbl1, va_recv hK hPc (ci := 3) (q0 := 0) rfl rfl, fun U hU hW => ⟨rfl, by rw [hU]; exact hPc, va_K.moved hW.alike hK⟩⟩ rfl rfl hl.1 rfl (lv_room (Nat.le_of_ble_eq_true rfl)) dX4_paper_36 ⟨Nat.le_of_ble_eq_true rfl, Nat.le_of_ble_eq_true rfl⟩)) (fun r3 hw => ?_)
      refine lv_aload_n hx hb dX4_paper_39 rfl (lv_at hl 0 rfl) ?_
      refine lv_iload_n hx hb dX4_paper_40 rfl (lv_at hl 1 rfl) ?_
      refine lv_iload_n hx hb dX4_paper_41 rfl (lv_at hl 2 rfl) ?_
      have hPc : va_P (dC, dI) vwCl (w_md gm cA um2) _ := hP
      refine vp_callSi (va_Run.run (va_runV (As := [.int x1, .int x2]) (rest := [.int r3, .ref (gm 0)]) ⟨hx, hb, hml, hown, hts⟩ (c_X4_pointAt l dC dI cA gm um2 x1 x2 _ hw) (gcV 2 hts m636 m633 m635 m10 m24 rfl rfl (by decide +kernel) ⟨Nat.le_of_ble_eq_true rfl, Nat.le_of_ble_eq_true rfl⟩) ⟨xbl1, va_recv hK hPc (ci := 3) (q0 := 0) rfl rfl, fun U hU hW => ⟨rfl, by rw [hU]; exact hPc, va_K.moved hW.alike hK⟩⟩ rfl rfl hl.1 rfl (lv_room (Nat.le_of_ble_eq_true rfl)) dX4_paper_42 ⟨Nat.le_of_ble_eq_true rfl, Nat.le_of_ble_eq_true rfl⟩)) (fun r4 hw => ?_)
      have hPc : va_P (dC, dI) vwCl (w_md gm cA um2) _ := hP
      refine vp_callSi (va_Run.run (va_runV (As := [.int r3, .int r4]) (rest := []) ⟨hx, hb, hml, hown, hts⟩ (c_X4_alphaOf l dC dI cA gm um2 r3 r4 _ hw) (gcV 2 hts m618 m615 m617 m8 m24 rfl rfl (by decide +kernel) ⟨Nat.le_of_ble_eq_true rfl, Nat.le_of_ble_eq_true rfl⟩) ⟨xbl1, va_recv hK hPc (ci := 3) (q0 := 0) rfl rfl, fun U hU hW => ⟨rfl, by rw [hU]; exact hPc, va_K.moved hW.alike hK⟩⟩ rfl rfl hl.1 rfl (lv_room (Nat.le_of_ble_eq_true rfl)) dX4_paper_45 ⟨Nat.le_of_ble_eq_true rfl, Nat.le_of_ble_eq_true rfl⟩)) (fun r5 hw => ?_)
      refine lv_istore (lv' := [(4, .int r5), (0, .ref (gm 0)), (1, .int x1), (2, .int x2), (3, .int x3)]) hx hb dX4_paper_48 hl (by decide) rfl (fun ls hl => ?_)
      refine lv_aload_n hx hb dX4_paper_50 rfl (lv_at hl 1 rfl) ?_
      refine va_get (D := (dC, dI)) (ci := 3) (v := .ref (gm 5)) (C := RX4) (T := TX4) (N := 23) hx hb hts iX4 hown hK hP 0 rfl rfl 10 (by decide) (hts _ (xm m538)) (fun _ h9 => h9) rfl dX4_paper_51 ?_
      refine lv_sipush (v := 432) hx hb dX4_paper_54 (by decide) ?_
      refine lv_aload_n hx hb dX4_paper_57 rfl (lv_at hl 1 rfl) ?_
      have hPc : va_P (dC, dI) vwCl (w_md gm cA um2) _ := hP
      refine vp_callSi (va_Run.run (va_runV (As := []) (rest := [.int 432, .ref (gm 5)]) ⟨hx, hb, hml, hown, hts⟩ (c_X4_here l dC dI cA gm um2 _ hw) (gcV 0 hts m733 m730 m732 m19 m24 rfl rfl (by decide +kernel) ⟨Nat.le_of_ble_eq_true rfl, Nat.le_of_ble_eq_true rfl⟩) ⟨xbl1, va_recv hK hPc (ci := 3) (q0 := 0) rfl rfl, fun U hU hW => ⟨rfl, by rw [hU]; exact hPc, va_K.moved hW.alike hK⟩⟩ rfl rfl hl.1 rfl (lv_room (Nat.le_of_ble_eq_true rfl)) dX4_paper_58 ⟨Nat.le_of_ble_eq_true rfl, Nat.le_of_ble_eq_true rfl⟩)) (fun r6 hw => ?_)
      refine lv_imul hx hb dX4_paper_61 ?_
      refine lv_iconst (v := 3) hx hb dX4_paper_62 (by decide) ?_
      refine lv_aload_n hx hb dX4_paper_63 rfl (lv_at hl 1 rfl) ?_
      refine lv_iload_n hx hb dX4_paper_64 rfl (lv_at hl 2 rfl) ?_
      refine lv_iload_n hx hb dX4_paper_65 rfl (lv_at hl 3 rfl) ?_
      have hPc : va_P (dC, dI) vwCl (w_md gm cA um2) _ := hP
      refine vp_callSi (va_Run.run (va_runV (As := [.int x1, .int x2]) (rest := [.int 3, .int (432 * r6), .ref (gm 5)]) ⟨hx, hb, hml, hown, hts⟩ (c_X4_pointAt l dC dI cA gm um2 x1 x2 _ hw) (gcV 2 hts m636 m633 m635 m10 m24 rfl rfl (by decide +kernel) ⟨Nat.le_of_ble_eq_true rfl, Nat.le_of_ble_eq_true rfl⟩) ⟨xbl1, va_recv hK hPc (ci := 3) (q0 := 0) rfl rfl, fun U hU hW => ⟨rfl, by rw [hU]; exact hPc, va_K.moved hW.alike hK⟩⟩ rfl rfl hl.1 rfl (lv_room (Nat.le_of_ble_eq_true rfl)) dX4_paper_66 ⟨Nat.le_of_ble_eq_true rfl, Nat.le_of_ble_eq_true rfl⟩)) (fun r7 hw => ?_)
      refine lv_imul hx hb dX4_paper_69 ?_
      refine lv_iadd hx hb dX4_paper_70 ?_
      refine lv_iload_n hx hb dX4_paper_71 rfl (lv_at hl 4 rfl) ?_
      refine lv_iadd hx hb dX4_paper_72 ?_
      refine va_iald hx hb hK hP 5 0 rfl rfl (And.left hw) dX4_paper_73 ?_
      replace hw := And.right hw
      refine lv_iload hx hb dX4_paper_74 (lv_at hl 0 rfl) ?_
      refine vp_callSi (va_Run.run (va_runS (As := [.int (um2 5 (((432 * r6) + (3 * r7)) + x3).toNatClampNeg), .int r5]) (rest := []) ⟨hx, hb, hml, hown, hts⟩ (c_X4_mul l (um2 5 (((432 * r6) + (3 * r7)) + x3).toNatClampNeg) r5 _ hw) (gcS 2 hts m621 m619 m620 m24 rfl rfl (by decide +kernel) ⟨Nat.le_of_ble_eq_true rfl, Nat.le_of_ble_eq_true rfl⟩) ⟨xbl0, fun U hU hW => ⟨rfl, trivial⟩⟩ rfl rfl hl.1 rfl (lv_room (Nat.le_of_ble_eq_true rfl)) dX4_paper_76 ⟨Nat.le_of_ble_eq_true rfl, Nat.le_of_ble_eq_true rfl⟩)) (fun r8 hw => ?_)
      refine lv_sipush (v := 255) hx hb dX4_paper_79 (by decide) ?_
      refine lv_iadd hx hb dX4_paper_82 ?_
      refine lv_iload hx hb dX4_paper_83 (lv_at hl 0 rfl) ?_
      refine lv_isub hx hb dX4_paper_85 ?_
      exact W.iret hx hb hr (fun t ht hW => ⟨⟨_, um2, rfl, hw, by rw [ht]; exact hP, va_K.moved hW.alike hK, hD⟩, hS.F ht⟩) hS.2.2 dX4_paper_86
    · replace hw := And.right hw c9
      refine lv_iconst (v := 0) hx hb dX4_paper_32 (by decide) ?_
      exact W.iret hx hb hr (fun t ht hW => ⟨⟨_, um2, rfl, hw, by rw [ht]; exact hP, va_K.moved hW.alike hK, hD⟩, hS.F ht⟩) hS.2.2 dX4_paper_33
  have J21 : ∀ (um : Nat → Nat → Int32) (x1 : Int32) (x2 : Int32) (x3 : Int32), wp_X4_paper_21 P um x1 x2 x3 → ∀ (H : Heap) (locs : List Loc) (ls : Array Slot), va_P (dC, dI) vwCl (w_md gm cA um) H → va_D A (w_md gm cA um) → va_S A s.heap H locs → lv_has ls 5 [(0, .ref (gm 0)), (1, .int x1), (2, .int x2), (3, .int x3)] → W p l e (headSpec wX4_paper rm_X4_paper).room s m args below meth c H locs 0 0 (MQ below (va_Qi (fun r (u : (Nat → Nat → Int32)) => P r u) (xB dC dI cA (fun u : (Nat → Nat → Int32) => w_md gm cA u) A) A) args s 0 0 A) (F0 m 21 ls [.ref (gm 0)]) := by
    intro  um x1 x2 x3 hw H locs ls hP hD hS hl
    refine lv_iconst (v := 1) hx hb dX4_paper_21 (by decide) ?_
    exact J22 _ _ _ _ _ hw _ _ _ hP hD hS (lv_sub hl [0, 1, 2, 3] rfl)
  have hl := lv_entry ([.ref (gm 0), .int p0, .int p1, .int p2]) (n := 5) (Nat.le_of_ble_eq_true rfl)
  rw [show entryFrame m args 5 = entryFrame m (([.ref (gm 0), .int p0, .int p1, .int p2] : List Value).toArray) 5 from by rw [hargs], lg_entry_eq]
  generalize (lg_sl ([.ref (gm 0), .int p0, .int p1, .int p2]) ++ List.replicate (5 - (lg_sl ([.ref (gm 0), .int p0, .int p1, .int p2])).length) Slot.unset).toArray = ls at hl ⊢
  have hl : lv_has ls 5 [(0, .ref (gm 0)), (1, .int p0), (2, .int p1), (3, .int p2)] := hl
  have hP : va_P (dC, dI) vwCl (w_md gm cA um) s.heap := hP
  refine lv_aload_n hx hb dX4_paper_0 rfl (lv_at hl 0 rfl) ?_
  refine lv_aload_n hx hb dX4_paper_1 rfl (lv_at hl 0 rfl) ?_
  refine lv_iload_n hx hb dX4_paper_2 rfl (lv_at hl 1 rfl) ?_
  refine lv_iload_n hx hb dX4_paper_3 rfl (lv_at hl 2 rfl) ?_
  have hPc : va_P (dC, dI) vwCl (w_md gm cA um) _ := hP
  refine vp_callSi (va_Run.run (va_runV (As := [.int p0, .int p1]) (rest := [.ref (gm 0)]) ⟨hx, hb, hml, hown, hts⟩ (c_X4_isPoint l dC dI cA gm um p0 p1 _ hw) (gcV 2 hts m721 m718 m720 m18 m24 rfl rfl (by decide +kernel) ⟨Nat.le_of_ble_eq_true rfl, Nat.le_of_ble_eq_true rfl⟩) ⟨xbl1, va_recv hK hPc (ci := 3) (q0 := 0) rfl rfl, fun U hU hW => ⟨rfl, by rw [hU]; exact hPc, va_K.moved hW.alike hK⟩⟩ rfl rfl hl.1 rfl (lv_room (Nat.le_of_ble_eq_true rfl)) dX4_paper_4 ⟨Nat.le_of_ble_eq_true rfl, Nat.le_of_ble_eq_true rfl⟩)) (fun r1 hw => ?_)
  refine lv_if_eq (tgt := 21) hx hb dX4_paper_7 (by decide) (fun c12 => ?_) (fun c12 => ?_)
  · replace hw := And.left hw c12
    exact J21 _ _ _ _ hw _ _ _ hP hD hS (lv_sub hl [0, 1, 2, 3] rfl)
  · replace hw := And.right hw c12
    refine lv_iload_n hx hb dX4_paper_10 rfl (lv_at hl 3 rfl) ?_
    refine vp_callSi (va_Run.run (va_runS (As := [.int p2]) (rest := [.ref (gm 0)]) ⟨hx, hb, hml, hown, hts⟩ (c_X4_isBand l p2 _ hw) (gcS 1 hts m709 m707 m708 m24 rfl rfl (by decide +kernel) ⟨Nat.le_of_ble_eq_true rfl, Nat.le_of_ble_eq_true rfl⟩) ⟨xbl0, fun U hU hW => ⟨rfl, trivial⟩⟩ rfl rfl hl.1 rfl (lv_room (Nat.le_of_ble_eq_true rfl)) dX4_paper_11 ⟨Nat.le_of_ble_eq_true rfl, Nat.le_of_ble_eq_true rfl⟩)) (fun r10 hw => ?_)
    refine lv_if_eq (tgt := 21) hx hb dX4_paper_14 (by decide) (fun c11 => ?_) (fun c11 => ?_)
    · replace hw := And.left hw c11
      exact J21 _ _ _ _ hw _ _ _ hP hD hS (lv_sub hl [0, 1, 2, 3] rfl)
    · replace hw := And.right hw c11
      refine lv_iconst (v := 0) hx hb dX4_paper_17 (by decide) ?_
      refine lv_goto (tgt := 22) hx hb dX4_paper_18 (by decide) ?_
      exact J22 _ _ _ _ _ hw _ _ _ hP hD hS (lv_sub hl [0, 1, 2, 3] rfl)
abbrev wX4_separable : List Cond := Cond.code yX4_separable cX4_separable 4 (some .int) :: gG
def wp_X4_separable_30 (P : Int32 → (Nat → Nat → Int32) → Prop) (um : Nat → Nat → Int32) (x1 : Int32) (x2 : Int32) (x3 : Int32) (s0 : Int32) : Prop :=
  ∀ um1 : Nat → Nat → Int32, um1 = st um 0 0 s0 → (((um1 0 0) ≤ 0 → wp_X4_ofBytes x1 x2 x3 (fun r2 => P r2 um1)) ∧
  (¬ (um1 0 0) ≤ 0 → P 0 um1))
def wp_X4_separable_25 (P : Int32 → (Nat → Nat → Int32) → Prop) (um : Nat → Nat → Int32) (x1 : Int32) (x2 : Int32) (x3 : Int32) : Prop :=
  wp_X4_separable_30 P um x1 x2 x3 1
def wp_X4_separable (um : Nat → Nat → Int32) (p0 : Int32) (p1 : Int32) (p2 : Int32) (P : Int32 → (Nat → Nat → Int32) → Prop) : Prop :=
  ((p0 < 0 → wp_X4_separable_25 P um p0 p1 p2) ∧
  (¬ p0 < 0 → ((11 < p0 → wp_X4_separable_25 P um p0 p1 p2) ∧
  (¬ 11 < p0 → wp_X4_isByte p1 (fun r4 => ((r4 = 0 → wp_X4_separable_25 P um p0 p1 p2) ∧
  (¬ r4 = 0 → wp_X4_isByte p2 (fun r5 => ((¬ r5 = 0 → wp_X4_separable_30 P um p0 p1 p2 0) ∧
  (r5 = 0 → wp_X4_separable_25 P um p0 p1 p2))))))))))
abbrev rm_X4_separable : Room := { frames := 3, cells := 0, slots := 0, locals := 66 }
set_option maxHeartbeats 4000000 in
set_option maxRecDepth 100000 in
theorem c_X4_separable (l : Launch) (dC : Nat → ClassId) (dI : Nat → Nat → Nat) (cA : Nat → ClassId) (gm : Nat → Nat) (sz : Nat) (um : Nat → Nat → Int32) (p0 : Int32) (p1 : Int32) (p2 : Int32) (P : Int32 → (Nat → Nat → Int32) → Prop) (hw : wp_X4_separable um p0 p1 p2 P) : Met l yX4_separable wX4_separable rm_X4_separable (xP2 dC dI cA (w_md gm cA um) sz [.ref (gm 0), .int p0, .int p1, .int p2]) (va_Qi (fun r (u : (Nat → Nat → Int32)) => P r u) (xB dC dI cA (fun u : (Nat → Nat → Int32) => w_md gm cA u) (va_A (w_md gm cA um) sz)) (va_A (w_md gm cA um) sz)) 0 0 (va_A (w_md gm cA um) sz) := by
  refine Met.ofW (cc := cX4_separable) (maxL := 4) (ret := (some .int)) (by decide) rfl ?_
  intro p e s m args below meth c s₁ B hml hv
  obtain ⟨hargs, hsz, hP, hK, hD0⟩ := hv
  have hx := B.exec
  have hb := B.bytes
  have hr := B.returns
  have hts := atoms_spec (ws := wX4_separable) B.pre
  have hown : s.vm.findClass RX4 = some m.cls := findClass_of_methodNamed B.named
  have hlocks := B.notSynchronized
  subst hsz
  have hD := hD0.self (sz := s.heap.size)
  generalize hAe : va_A (w_md gm cA um) s.heap.size = A at hD ⊢
  have hA : ∀ q : Nat, s.heap.size ≤ q → A q := fun q h => by rw [← hAe]; exact Or.inr h
  have hS : va_S A s.heap s.heap [] := va_S.rf
  clear hAe hD0
  have J30 : ∀ (um : Nat → Nat → Int32) (x1 : Int32) (x2 : Int32) (x3 : Int32) (s0 : Int32), wp_X4_separable_30 P um x1 x2 x3 s0 → ∀ (H : Heap) (locs : List Loc) (ls : Array Slot), va_P (dC, dI) vwCl (w_md gm cA um) H → va_D A (w_md gm cA um) → va_S A s.heap H locs → lv_has ls 4 [(0, .ref (gm 0)), (1, .int x1), (2, .int x2), (3, .int x3)] → W p l e (headSpec wX4_separable rm_X4_separable).room s m args below meth c H locs 0 0 (MQ below (va_Qi (fun r (u : (Nat → Nat → Int32)) => P r u) (xB dC dI cA (fun u : (Nat → Nat → Int32) => w_md gm cA u) A) A) args s 0 0 A) (F0 m 30 ls [.int s0, .ref (gm 0)]) := by
    intro  um x1 x2 x3 s0 hw H locs ls hP hD hS hl
    obtain ⟨um1, e_um1⟩ : ∃ z, z = st um 0 0 s0 := ⟨_, rfl⟩
    refine va_put (D := (dC, dI)) (ci := 3) (v := .int s0) (ty := .int) (C := RX4) (T := TX4) (N := 23) hx hb hts iX4 tyX4 tyX4_ok nmX4 hown hK hP hD hS 0 rfl rfl 0 (by decide) (hts _ (xm m528)) (fun _ h9 => h9) rfl (by decide +kernel) rfl rfl (Nat.le_of_ble_eq_true rfl) dX4_separable_30 (fun H locs hP hD hS => ?_)
    replace hw := hw um1 e_um1
    have hP : va_P (dC, dI) vwCl (w_md gm cA um1) H := by rw [e_um1]; exact hP
    have hD : va_D A (w_md gm cA um1) := by rw [e_um1]; exact hD
    refine lv_aload_n hx hb dX4_separable_33 rfl (lv_at hl 0 rfl) ?_
    refine va_get (D := (dC, dI)) (ci := 3) (v := .int (um1 0 0)) (C := RX4) (T := TX4) (N := 23) hx hb hts iX4 hown hK hP 0 rfl rfl 0 (by decide) (hts _ (xm m528)) (fun _ h9 => h9) rfl dX4_separable_34 ?_
    refine lv_if_le (tgt := 44) hx hb dX4_separable_37 (by decide) (fun c3 => ?_) (fun c3 => ?_)
    · replace hw := And.left hw c3
      refine lv_iload_n hx hb dX4_separable_44 rfl (lv_at hl 1 rfl) ?_
      refine lv_iload_n hx hb dX4_separable_45 rfl (lv_at hl 2 rfl) ?_
      refine lv_iload_n hx hb dX4_separable_46 rfl (lv_at hl 3 rfl) ?_
      refine vp_callSi (va_Run.run (va_runS (As := [.int x1, .int x2, .int x3]) (rest := []) ⟨hx, hb, hml, hown, hts⟩ (c_X4_ofBytes l x1 x2 x3 _ hw) (gcS 3 hts m655 m653 m654 m24 rfl rfl (by decide +kernel) ⟨Nat.le_of_ble_eq_true rfl, Nat.le_of_ble_eq_true rfl⟩) ⟨xbl0, fun U hU hW => ⟨rfl, trivial⟩⟩ rfl rfl hl.1 rfl (lv_room (Nat.le_of_ble_eq_true rfl)) dX4_separable_47 ⟨Nat.le_of_ble_eq_true rfl, Nat.le_of_ble_eq_true rfl⟩)) (fun r2 hw => ?_)
      exact W.iret hx hb hr (fun t ht hW => ⟨⟨_, um1, rfl, hw, by rw [ht]; exact hP, va_K.moved hW.alike hK, hD⟩, hS.F ht⟩) hS.2.2 dX4_separable_50
    · replace hw := And.right hw c3
      refine lv_iconst (v := 0) hx hb dX4_separable_40 (by decide) ?_
      refine lv_goto (tgt := 50) hx hb dX4_separable_41 (by decide) ?_
      exact W.iret hx hb hr (fun t ht hW => ⟨⟨_, um1, rfl, hw, by rw [ht]; exact hP, va_K.moved hW.alike hK, hD⟩, hS.F ht⟩) hS.2.2 dX4_separable_50
  have J25 : ∀ (um : Nat → Nat → Int32) (x1 : Int32) (x2 : Int32) (x3 : Int32), wp_X4_separable_25 P um x1 x2 x3 → ∀ (H : Heap) (locs : List Loc) (ls : Array Slot), va_P (dC, dI) vwCl (w_md gm cA um) H → va_D A (w_md gm cA um) → va_S A s.heap H locs → lv_has ls 4 [(0, .ref (gm 0)), (1, .int x1), (2, .int x2), (3, .int x3)] → W p l e (headSpec wX4_separable rm_X4_separable).room s m args below meth c H locs 0 0 (MQ below (va_Qi (fun r (u : (Nat → Nat → Int32)) => P r u) (xB dC dI cA (fun u : (Nat → Nat → Int32) => w_md gm cA u) A) A) args s 0 0 A) (F0 m 25 ls [.ref (gm 0)]) := by
    intro  um x1 x2 x3 hw H locs ls hP hD hS hl
    refine lv_iconst (v := 1) hx hb dX4_separable_25 (by decide) ?_
    refine lv_goto (tgt := 30) hx hb dX4_separable_26 (by decide) ?_
    exact J30 _ _ _ _ _ hw _ _ _ hP hD hS (lv_sub hl [0, 1, 2, 3] rfl)
  have hl := lv_entry ([.ref (gm 0), .int p0, .int p1, .int p2]) (n := 4) (Nat.le_of_ble_eq_true rfl)
  rw [show entryFrame m args 4 = entryFrame m (([.ref (gm 0), .int p0, .int p1, .int p2] : List Value).toArray) 4 from by rw [hargs], lg_entry_eq]
  generalize (lg_sl ([.ref (gm 0), .int p0, .int p1, .int p2]) ++ List.replicate (4 - (lg_sl ([.ref (gm 0), .int p0, .int p1, .int p2])).length) Slot.unset).toArray = ls at hl ⊢
  have hl : lv_has ls 4 [(0, .ref (gm 0)), (1, .int p0), (2, .int p1), (3, .int p2)] := hl
  have hP : va_P (dC, dI) vwCl (w_md gm cA um) s.heap := hP
  refine lv_aload_n hx hb dX4_separable_0 rfl (lv_at hl 0 rfl) ?_
  refine lv_iload_n hx hb dX4_separable_1 rfl (lv_at hl 1 rfl) ?_
  refine lv_if_lt (tgt := 25) hx hb dX4_separable_2 (by decide) (fun c9 => ?_) (fun c9 => ?_)
  · replace hw := And.left hw c9
    exact J25 _ _ _ _ hw _ _ _ hP hD hS (lv_sub hl [0, 1, 2, 3] rfl)
  · replace hw := And.right hw c9
    refine lv_iload_n hx hb dX4_separable_5 rfl (lv_at hl 1 rfl) ?_
    refine lv_bipush (v := 11) hx hb dX4_separable_6 (by decide) ?_
    refine lv_icmp_gt (tgt := 25) hx hb dX4_separable_8 (by decide) (fun c8 => ?_) (fun c8 => ?_)
    · replace hw := And.left hw c8
      exact J25 _ _ _ _ hw _ _ _ hP hD hS (lv_sub hl [0, 1, 2, 3] rfl)
    · replace hw := And.right hw c8
      refine lv_iload_n hx hb dX4_separable_11 rfl (lv_at hl 2 rfl) ?_
      refine vp_callSi (va_Run.run (va_runS (As := [.int p1]) (rest := [.ref (gm 0)]) ⟨hx, hb, hml, hown, hts⟩ (c_X4_isByte l p1 _ hw) (gcS 1 hts m628 m626 m627 m24 rfl rfl (by decide +kernel) ⟨Nat.le_of_ble_eq_true rfl, Nat.le_of_ble_eq_true rfl⟩) ⟨xbl0, fun U hU hW => ⟨rfl, trivial⟩⟩ rfl rfl hl.1 rfl (lv_room (Nat.le_of_ble_eq_true rfl)) dX4_separable_12 ⟨Nat.le_of_ble_eq_true rfl, Nat.le_of_ble_eq_true rfl⟩)) (fun r4 hw => ?_)
      refine lv_if_eq (tgt := 25) hx hb dX4_separable_15 (by decide) (fun c7 => ?_) (fun c7 => ?_)
      · replace hw := And.left hw c7
        exact J25 _ _ _ _ hw _ _ _ hP hD hS (lv_sub hl [0, 1, 2, 3] rfl)
      · replace hw := And.right hw c7
        refine lv_iload_n hx hb dX4_separable_18 rfl (lv_at hl 3 rfl) ?_
        refine vp_callSi (va_Run.run (va_runS (As := [.int p2]) (rest := [.ref (gm 0)]) ⟨hx, hb, hml, hown, hts⟩ (c_X4_isByte l p2 _ hw) (gcS 1 hts m628 m626 m627 m24 rfl rfl (by decide +kernel) ⟨Nat.le_of_ble_eq_true rfl, Nat.le_of_ble_eq_true rfl⟩) ⟨xbl0, fun U hU hW => ⟨rfl, trivial⟩⟩ rfl rfl hl.1 rfl (lv_room (Nat.le_of_ble_eq_true rfl)) dX4_separable_19 ⟨Nat.le_of_ble_eq_true rfl, Nat.le_of_ble_eq_true rfl⟩)) (fun r5 hw => ?_)
        refine lv_if_ne (tgt := 29) hx hb dX4_separable_22 (by decide) (fun c6 => ?_) (fun c6 => ?_)
        · replace hw := And.left hw c6
          refine lv_iconst (v := 0) hx hb dX4_separable_29 (by decide) ?_
          exact J30 _ _ _ _ _ hw _ _ _ hP hD hS (lv_sub hl [0, 1, 2, 3] rfl)
        · replace hw := And.right hw c6
          exact J25 _ _ _ _ hw _ _ _ hP hD hS (lv_sub hl [0, 1, 2, 3] rfl)
abbrev wX4_blend : List Cond := Cond.code yX4_blend cX4_blend 6 (some .int) :: gG
def wp_X4_blend_63 (KX : (Nat → Nat → Int32) → Prop) (x1 : Int32) (x2 : Int32) (x3 : Int32) : Nat → (Nat → Nat → Int32) → Int32 → Prop
  | 0, _, _ => False
  | N63 + 1, um, x5 =>
    ((3 ≤ x5 → KX um) ∧
  (¬ 3 ≤ x5 → (vp_in x5 3 ∧ ∀ um2 : Nat → Nat → Int32, um2 = st um 13 x5.toNatClampNeg ((x2 >>> ((8 * x5) &&& 31)) &&& 255) → (vp_in x5 3 ∧ ∀ um3 : Nat → Nat → Int32, um3 = st um2 12 x5.toNatClampNeg ((x3 >>> ((8 * x5) &&& 31)) &&& 255) → ∀ v4 : Int32, v4 = x5 + 1 → wp_X4_blend_63 KX x1 x2 x3 N63 um3 v4))))
def wp_X4_blend_48 (P : Int32 → (Nat → Nat → Int32) → Prop) (um : Nat → Nat → Int32) (x1 : Int32) (x2 : Int32) (x3 : Int32) (s0 : Int32) : Prop :=
  ∀ um1 : Nat → Nat → Int32, um1 = st um 0 0 s0 → (((um1 0 0) ≤ 0 → (∃ N63, wp_X4_blend_63 (fun (um6 : Nat → Nat → Int32) => wp_X4_mix um6 x1 (fun (um8 : Nat → Nat → Int32) => P (((um8 14 0) ||| ((um8 14 1) <<< (8 &&& 31))) ||| ((um8 14 2) <<< (16 &&& 31))) um8)) x1 x2 x3 N63 um1 0)) ∧
  (¬ (um1 0 0) ≤ 0 → P 0 um1))
def wp_X4_blend_35 (P : Int32 → (Nat → Nat → Int32) → Prop) (um : Nat → Nat → Int32) (x1 : Int32) (x2 : Int32) (x3 : Int32) (s0 : Int32) : Prop :=
  ((s0 = 0 → wp_X4_blend_48 P um x1 x2 x3 1) ∧
  (¬ s0 = 0 → wp_X4_blend_48 P um x1 x2 x3 0))
def wp_X4_blend_34 (P : Int32 → (Nat → Nat → Int32) → Prop) (um : Nat → Nat → Int32) (x1 : Int32) (x2 : Int32) (x3 : Int32) : Prop :=
  wp_X4_blend_35 P um x1 x2 x3 0
def wp_X4_blend (um : Nat → Nat → Int32) (p0 : Int32) (p1 : Int32) (p2 : Int32) (P : Int32 → (Nat → Nat → Int32) → Prop) : Prop :=
  ((p0 < 0 → wp_X4_blend_34 P um p0 p1 p2) ∧
  (¬ p0 < 0 → ((15 < p0 → wp_X4_blend_34 P um p0 p1 p2) ∧
  (¬ 15 < p0 → ((p1 < 0 → wp_X4_blend_34 P um p0 p1 p2) ∧
  (¬ p1 < 0 → ((16777215 < p1 → wp_X4_blend_34 P um p0 p1 p2) ∧
  (¬ 16777215 < p1 → ((p2 < 0 → wp_X4_blend_34 P um p0 p1 p2) ∧
  (¬ p2 < 0 → ((16777215 < p2 → wp_X4_blend_34 P um p0 p1 p2) ∧
  (¬ 16777215 < p2 → wp_X4_blend_35 P um p0 p1 p2 1))))))))))))
abbrev rm_X4_blend : Room := { frames := 4, cells := 0, slots := 0, locals := 90 }
set_option maxHeartbeats 4000000 in
set_option maxRecDepth 100000 in
theorem c_X4_blend (l : Launch) (dC : Nat → ClassId) (dI : Nat → Nat → Nat) (cA : Nat → ClassId) (gm : Nat → Nat) (sz : Nat) (um : Nat → Nat → Int32) (p0 : Int32) (p1 : Int32) (p2 : Int32) (P : Int32 → (Nat → Nat → Int32) → Prop) (hw : wp_X4_blend um p0 p1 p2 P) : Met l yX4_blend wX4_blend rm_X4_blend (xP2 dC dI cA (w_md gm cA um) sz [.ref (gm 0), .int p0, .int p1, .int p2]) (va_Qi (fun r (u : (Nat → Nat → Int32)) => P r u) (xB dC dI cA (fun u : (Nat → Nat → Int32) => w_md gm cA u) (va_A (w_md gm cA um) sz)) (va_A (w_md gm cA um) sz)) 0 0 (va_A (w_md gm cA um) sz) := by
  refine Met.ofW (cc := cX4_blend) (maxL := 6) (ret := (some .int)) (by decide) rfl ?_
  intro p e s m args below meth c s₁ B hml hv
  obtain ⟨hargs, hsz, hP, hK, hD0⟩ := hv
  have hx := B.exec
  have hb := B.bytes
  have hr := B.returns
  have hts := atoms_spec (ws := wX4_blend) B.pre
  have hown : s.vm.findClass RX4 = some m.cls := findClass_of_methodNamed B.named
  have hlocks := B.notSynchronized
  subst hsz
  have hD := hD0.self (sz := s.heap.size)
  generalize hAe : va_A (w_md gm cA um) s.heap.size = A at hD ⊢
  have hA : ∀ q : Nat, s.heap.size ≤ q → A q := fun q h => by rw [← hAe]; exact Or.inr h
  have hS : va_S A s.heap s.heap [] := va_S.rf
  clear hAe hD0
  have L63 : ∀ (KX : (Nat → Nat → Int32) → Prop) (x1 : Int32) (x2 : Int32) (x3 : Int32), (∀ (um : Nat → Nat → Int32), KX um → ∀ (H : Heap) (locs : List Loc) (ls : Array Slot), va_P (dC, dI) vwCl (w_md gm cA um) H → va_D A (w_md gm cA um) → va_S A s.heap H locs → lv_has ls 6 [(0, .ref (gm 0)), (1, .int x1)] → W p l e (headSpec wX4_blend rm_X4_blend).room s m args below meth c H locs 0 0 (MQ below (va_Qi (fun r (u : (Nat → Nat → Int32)) => P r u) (xB dC dI cA (fun u : (Nat → Nat → Int32) => w_md gm cA u) A) A) args s 0 0 A) (F0 m 111 ls [])) → ∀ (N : Nat) (um : Nat → Nat → Int32) (x5 : Int32), wp_X4_blend_63 KX x1 x2 x3 N um x5 → ∀ (H : Heap) (locs : List Loc) (ls : Array Slot), va_P (dC, dI) vwCl (w_md gm cA um) H → va_D A (w_md gm cA um) → va_S A s.heap H locs → lv_has ls 6 [(0, .ref (gm 0)), (1, .int x1), (2, .int x2), (3, .int x3), (5, .int x5)] → W p l e (headSpec wX4_blend rm_X4_blend).room s m args below meth c H locs 0 0 (MQ below (va_Qi (fun r (u : (Nat → Nat → Int32)) => P r u) (xB dC dI cA (fun u : (Nat → Nat → Int32) => w_md gm cA u) A) A) args s 0 0 A) (F0 m 63 ls []) := by
    intro KX x1 x2 x3 hx2 N63
    induction N63 with
    | zero =>
      intro um x5 hw
      exact False.elim hw
    | succ N63 hk =>
      intro um x5 hw H locs ls hP hD hS hl
      rw [wp_X4_blend_63] at hw
      refine lv_iload hx hb dX4_blend_63 (lv_at hl 4 rfl) ?_
      refine lv_iconst (v := 3) hx hb dX4_blend_65 (by decide) ?_
      refine lv_icmp_ge (tgt := 111) hx hb dX4_blend_66 (by decide) (fun c5 => ?_) (fun c5 => ?_)
      · replace hw := And.left hw c5
        exact hx2 _ hw _ _ _ hP hD hS (lv_sub hl [0, 1] rfl)
      · replace hw := And.right hw c5
        refine lv_aload_n hx hb dX4_blend_69 rfl (lv_at hl 0 rfl) ?_
        refine va_get (D := (dC, dI)) (ci := 3) (v := .ref (gm 13)) (C := RX4) (T := TX4) (N := 23) hx hb hts iX4 hown hK hP 0 rfl rfl 20 (by decide) (hts _ (xm m548)) (fun _ h9 => h9) rfl dX4_blend_70 ?_
        refine lv_iload hx hb dX4_blend_73 (lv_at hl 4 rfl) ?_
        refine lv_iload_n hx hb dX4_blend_75 rfl (lv_at hl 2 rfl) ?_
        refine lv_bipush (v := 8) hx hb dX4_blend_76 (by decide) ?_
        refine lv_iload hx hb dX4_blend_78 (lv_at hl 4 rfl) ?_
        refine lv_imul hx hb dX4_blend_80 ?_
        refine lv_ishr hx hb dX4_blend_81 ?_
        refine lv_sipush (v := 255) hx hb dX4_blend_82 (by decide) ?_
        refine lv_iand hx hb dX4_blend_85 ?_
        obtain ⟨um2, e_um2⟩ : ∃ z, z = st um 13 x5.toNatClampNeg ((x2 >>> ((8 * x5) &&& 31)) &&& 255) := ⟨_, rfl⟩
        refine va_iast hx hb hK hP hD hS 13 0 rfl rfl (And.left hw) dX4_blend_86 (fun H locs hP hD hS => ?_)
        replace hw := And.right hw
        replace hw := hw um2 e_um2
        have hP : va_P (dC, dI) vwCl (w_md gm cA um2) H := by rw [e_um2]; exact hP
        have hD : va_D A (w_md gm cA um2) := by rw [e_um2]; exact hD
        refine lv_aload_n hx hb dX4_blend_87 rfl (lv_at hl 0 rfl) ?_
        refine va_get (D := (dC, dI)) (ci := 3) (v := .ref (gm 12)) (C := RX4) (T := TX4) (N := 23) hx hb hts iX4 hown hK hP 0 rfl rfl 19 (by decide) (hts _ (xm m547)) (fun _ h9 => h9) rfl dX4_blend_88 ?_
        refine lv_iload hx hb dX4_blend_91 (lv_at hl 4 rfl) ?_
        refine lv_iload_n hx hb dX4_blend_93 rfl (lv_at hl 3 rfl) ?_
        refine lv_bipush (v := 8) hx hb dX4_blend_94 (by decide) ?_
        refine lv_iload hx hb dX4_blend_96 (lv_at hl 4 rfl) ?_
        refine lv_imul hx hb dX4_blend_98 ?_
        refine lv_ishr hx hb dX4_blend_99 ?_
        refine lv_sipush (v := 255) hx hb dX4_blend_100 (by decide) ?_
        refine lv_iand hx hb dX4_blend_103 ?_
        obtain ⟨um3, e_um3⟩ : ∃ z, z = st um2 12 x5.toNatClampNeg ((x3 >>> ((8 * x5) &&& 31)) &&& 255) := ⟨_, rfl⟩
        refine va_iast hx hb hK hP hD hS 12 0 rfl rfl (And.left hw) dX4_blend_104 (fun H locs hP hD hS => ?_)
        replace hw := And.right hw
        replace hw := hw um3 e_um3
        have hP : va_P (dC, dI) vwCl (w_md gm cA um3) H := by rw [e_um3]; exact hP
        have hD : va_D A (w_md gm cA um3) := by rw [e_um3]; exact hD
        obtain ⟨v4, e_v4⟩ : ∃ y : Int32, y = x5 + 1 := ⟨_, rfl⟩
        replace hw := hw v4 e_v4
        refine lv_iinc (v := v4) (lv' := [(5, .int v4), (0, .ref (gm 0)), (1, .int x1), (2, .int x2), (3, .int x3)]) hx hb dX4_blend_105 hl (k := 4) rfl (by rw [e_v4]; rfl) (by decide) rfl (fun ls hl => ?_)
        refine lv_goto (tgt := 63) hx hb dX4_blend_108 (by decide) ?_
        exact hk _ _ hw _ _ _ hP hD hS (lv_sub hl [1, 2, 3, 4, 0] rfl)
  have J48 : ∀ (um : Nat → Nat → Int32) (x1 : Int32) (x2 : Int32) (x3 : Int32) (s0 : Int32), wp_X4_blend_48 P um x1 x2 x3 s0 → ∀ (H : Heap) (locs : List Loc) (ls : Array Slot), va_P (dC, dI) vwCl (w_md gm cA um) H → va_D A (w_md gm cA um) → va_S A s.heap H locs → lv_has ls 6 [(0, .ref (gm 0)), (1, .int x1), (2, .int x2), (3, .int x3)] → W p l e (headSpec wX4_blend rm_X4_blend).room s m args below meth c H locs 0 0 (MQ below (va_Qi (fun r (u : (Nat → Nat → Int32)) => P r u) (xB dC dI cA (fun u : (Nat → Nat → Int32) => w_md gm cA u) A) A) args s 0 0 A) (F0 m 48 ls [.int s0, .ref (gm 0)]) := by
    intro  um x1 x2 x3 s0 hw H locs ls hP hD hS hl
    obtain ⟨um1, e_um1⟩ : ∃ z, z = st um 0 0 s0 := ⟨_, rfl⟩
    refine va_put (D := (dC, dI)) (ci := 3) (v := .int s0) (ty := .int) (C := RX4) (T := TX4) (N := 23) hx hb hts iX4 tyX4 tyX4_ok nmX4 hown hK hP hD hS 0 rfl rfl 0 (by decide) (hts _ (xm m528)) (fun _ h9 => h9) rfl (by decide +kernel) rfl rfl (Nat.le_of_ble_eq_true rfl) dX4_blend_48 (fun H locs hP hD hS => ?_)
    replace hw := hw um1 e_um1
    have hP : va_P (dC, dI) vwCl (w_md gm cA um1) H := by rw [e_um1]; exact hP
    have hD : va_D A (w_md gm cA um1) := by rw [e_um1]; exact hD
    refine lv_aload_n hx hb dX4_blend_51 rfl (lv_at hl 0 rfl) ?_
    refine va_get (D := (dC, dI)) (ci := 3) (v := .int (um1 0 0)) (C := RX4) (T := TX4) (N := 23) hx hb hts iX4 hown hK hP 0 rfl rfl 0 (by decide) (hts _ (xm m528)) (fun _ h9 => h9) rfl dX4_blend_52 ?_
    refine lv_if_le (tgt := 60) hx hb dX4_blend_55 (by decide) (fun c9 => ?_) (fun c9 => ?_)
    · replace hw := And.left hw c9
      refine lv_iconst (v := 0) hx hb dX4_blend_60 (by decide) ?_
      refine lv_istore (lv' := [(5, .int 0), (0, .ref (gm 0)), (1, .int x1), (2, .int x2), (3, .int x3)]) hx hb dX4_blend_61 hl (by decide) rfl (fun ls hl => ?_)
      obtain ⟨N63, hw⟩ := hw
      refine L63 _ _ _ _ (fun um6 hw H locs ls hP hD hS hl => ?_) N63 _ _ hw _ _ _ hP hD hS (lv_sub hl [1, 2, 3, 4, 0] rfl)
      refine lv_aload_n hx hb dX4_blend_111 rfl (lv_at hl 0 rfl) ?_
      refine lv_iload_n hx hb dX4_blend_112 rfl (lv_at hl 1 rfl) ?_
      have hPc : va_P (dC, dI) vwCl (w_md gm cA um6) _ := hP
      have hDc := hD.sub (ws' := (w_md gm cA um6)) [0, 1, 2, 3, 4, 5, 6, 7, 8, 9, 10, 11, 12, 13, 14, 15] (by decide) rfl
      have hFc := va_free (wc := (w_md gm cA um6)) hD hS hA [0, 1, 2, 3, 4, 5, 6, 7, 8, 9, 10, 11, 12, 13, 14, 15] rfl
      refine va_callv (va_runV (As := [.int x1]) (rest := []) ⟨hx, hb, hml, hown, hts⟩ (c_X4_mix l dC dI cA gm _ um6 x1 _ hw) (gcV 1 hts m652 m649 m651 m14 m24 rfl rfl (by decide +kernel) ⟨Nat.le_of_ble_eq_true rfl, Nat.le_of_ble_eq_true rfl⟩) ⟨xbl2, va_recv hK hPc (ci := 3) (q0 := 0) rfl rfl, fun U hU hW => ⟨rfl, by rw [hU], by rw [hU]; exact hPc, va_K.moved hW.alike hK, hDc.weaken (fun _ _ _ _ => trivial)⟩⟩ rfl rfl hl.1 rfl (lv_room (Nat.le_of_ble_eq_true rfl)) dX4_blend_113 ⟨Nat.le_of_ble_eq_true rfl, Nat.le_of_ble_eq_true rfl⟩) hS (fun q _ h => hFc q h) hFc (fun u t H1 locs ht hvm hw hB hz1 hk1 hS => ?_)
      obtain ⟨um8, e_u⟩ : ∃ z, z = u := ⟨_, rfl⟩
      subst e_u
      obtain ⟨hP1, hK1, hD1⟩ := hB
      rw [ht] at hP1
      have hP : va_P (dC, dI) vwCl (w_md gm cA um8) H1 := hP1
      have hD : va_D A (w_md gm cA um8) := hD1.weaken (fun k q hk h => hFc q.1 h)
      clear hP1 hD1 hK1 hk1 hz1 hFc hDc hPc ht
      generalize H1 = H at hP hS ⊢
      refine lv_aload_n hx hb dX4_blend_116 rfl (lv_at hl 0 rfl) ?_
      refine va_get (D := (dC, dI)) (ci := 3) (v := .ref (gm 14)) (C := RX4) (T := TX4) (N := 23) hx hb hts iX4 hown hK hP 0 rfl rfl 21 (by decide) (hts _ (xm m549)) (fun _ h9 => h9) rfl dX4_blend_117 ?_
      refine lv_iconst (v := 0) hx hb dX4_blend_120 (by decide) ?_
      refine va_iald hx hb hK hP 14 0 rfl rfl (xin (by decide)) dX4_blend_121 ?_
      refine xtop (y := um8 14 0) rfl ?_
      refine lv_aload_n hx hb dX4_blend_122 rfl (lv_at hl 0 rfl) ?_
      refine va_get (D := (dC, dI)) (ci := 3) (v := .ref (gm 14)) (C := RX4) (T := TX4) (N := 23) hx hb hts iX4 hown hK hP 0 rfl rfl 21 (by decide) (hts _ (xm m549)) (fun _ h9 => h9) rfl dX4_blend_123 ?_
      refine lv_iconst (v := 1) hx hb dX4_blend_126 (by decide) ?_
      refine va_iald hx hb hK hP 14 0 rfl rfl (xin (by decide)) dX4_blend_127 ?_
      refine xtop (y := um8 14 1) rfl ?_
      refine lv_bipush (v := 8) hx hb dX4_blend_128 (by decide) ?_
      refine lv_ishl hx hb dX4_blend_130 ?_
      refine lv_ior hx hb dX4_blend_131 ?_
      refine lv_aload_n hx hb dX4_blend_132 rfl (lv_at hl 0 rfl) ?_
      refine va_get (D := (dC, dI)) (ci := 3) (v := .ref (gm 14)) (C := RX4) (T := TX4) (N := 23) hx hb hts iX4 hown hK hP 0 rfl rfl 21 (by decide) (hts _ (xm m549)) (fun _ h9 => h9) rfl dX4_blend_133 ?_
      refine lv_iconst (v := 2) hx hb dX4_blend_136 (by decide) ?_
      refine va_iald hx hb hK hP 14 0 rfl rfl (xin (by decide)) dX4_blend_137 ?_
      refine xtop (y := um8 14 2) rfl ?_
      refine lv_bipush (v := 16) hx hb dX4_blend_138 (by decide) ?_
      refine lv_ishl hx hb dX4_blend_140 ?_
      refine lv_ior hx hb dX4_blend_141 ?_
      exact W.iret hx hb hr (fun t ht hW => ⟨⟨_, um8, rfl, hw, by rw [ht]; exact hP, va_K.moved hW.alike hK, hD⟩, hS.F ht⟩) hS.2.2 dX4_blend_142
    · replace hw := And.right hw c9
      refine lv_iconst (v := 0) hx hb dX4_blend_58 (by decide) ?_
      exact W.iret hx hb hr (fun t ht hW => ⟨⟨_, um1, rfl, hw, by rw [ht]; exact hP, va_K.moved hW.alike hK, hD⟩, hS.F ht⟩) hS.2.2 dX4_blend_59
  have J35 : ∀ (um : Nat → Nat → Int32) (x1 : Int32) (x2 : Int32) (x3 : Int32) (s0 : Int32), wp_X4_blend_35 P um x1 x2 x3 s0 → ∀ (H : Heap) (locs : List Loc) (ls : Array Slot), va_P (dC, dI) vwCl (w_md gm cA um) H → va_D A (w_md gm cA um) → va_S A s.heap H locs → lv_has ls 6 [(0, .ref (gm 0)), (1, .int x1), (2, .int x2), (3, .int x3)] → W p l e (headSpec wX4_blend rm_X4_blend).room s m args below meth c H locs 0 0 (MQ below (va_Qi (fun r (u : (Nat → Nat → Int32)) => P r u) (xB dC dI cA (fun u : (Nat → Nat → Int32) => w_md gm cA u) A) A) args s 0 0 A) (F0 m 35 ls [.int s0]) := by
    intro  um x1 x2 x3 s0 hw H locs ls hP hD hS hl
    refine lv_istore (lv' := [(4, .int s0), (0, .ref (gm 0)), (1, .int x1), (2, .int x2), (3, .int x3)]) hx hb dX4_blend_35 hl (by decide) rfl (fun ls hl => ?_)
    refine lv_aload_n hx hb dX4_blend_37 rfl (lv_at hl 1 rfl) ?_
    refine lv_iload hx hb dX4_blend_38 (lv_at hl 0 rfl) ?_
    refine lv_if_eq (tgt := 47) hx hb dX4_blend_40 (by decide) (fun c10 => ?_) (fun c10 => ?_)
    · replace hw := And.left hw c10
      refine lv_iconst (v := 1) hx hb dX4_blend_47 (by decide) ?_
      exact J48 _ _ _ _ _ hw _ _ _ hP hD hS (lv_sub hl [1, 2, 3, 4] rfl)
    · replace hw := And.right hw c10
      refine lv_iconst (v := 0) hx hb dX4_blend_43 (by decide) ?_
      refine lv_goto (tgt := 48) hx hb dX4_blend_44 (by decide) ?_
      exact J48 _ _ _ _ _ hw _ _ _ hP hD hS (lv_sub hl [1, 2, 3, 4] rfl)
  have J34 : ∀ (um : Nat → Nat → Int32) (x1 : Int32) (x2 : Int32) (x3 : Int32), wp_X4_blend_34 P um x1 x2 x3 → ∀ (H : Heap) (locs : List Loc) (ls : Array Slot), va_P (dC, dI) vwCl (w_md gm cA um) H → va_D A (w_md gm cA um) → va_S A s.heap H locs → lv_has ls 6 [(0, .ref (gm 0)), (1, .int x1), (2, .int x2), (3, .int x3)] → W p l e (headSpec wX4_blend rm_X4_blend).room s m args below meth c H locs 0 0 (MQ below (va_Qi (fun r (u : (Nat → Nat → Int32)) => P r u) (xB dC dI cA (fun u : (Nat → Nat → Int32) => w_md gm cA u) A) A) args s 0 0 A) (F0 m 34 ls []) := by
    intro  um x1 x2 x3 hw H locs ls hP hD hS hl
    refine lv_iconst (v := 0) hx hb dX4_blend_34 (by decide) ?_
    exact J35 _ _ _ _ _ hw _ _ _ hP hD hS (lv_sub hl [0, 1, 2, 3] rfl)
  have hl := lv_entry ([.ref (gm 0), .int p0, .int p1, .int p2]) (n := 6) (Nat.le_of_ble_eq_true rfl)
  rw [show entryFrame m args 6 = entryFrame m (([.ref (gm 0), .int p0, .int p1, .int p2] : List Value).toArray) 6 from by rw [hargs], lg_entry_eq]
  generalize (lg_sl ([.ref (gm 0), .int p0, .int p1, .int p2]) ++ List.replicate (6 - (lg_sl ([.ref (gm 0), .int p0, .int p1, .int p2])).length) Slot.unset).toArray = ls at hl ⊢
  have hl : lv_has ls 6 [(0, .ref (gm 0)), (1, .int p0), (2, .int p1), (3, .int p2)] := hl
  have hP : va_P (dC, dI) vwCl (w_md gm cA um) s.heap := hP
  refine lv_iload_n hx hb dX4_blend_0 rfl (lv_at hl 1 rfl) ?_
  refine lv_if_lt (tgt := 34) hx hb dX4_blend_1 (by decide) (fun c16 => ?_) (fun c16 => ?_)
  · replace hw := And.left hw c16
    exact J34 _ _ _ _ hw _ _ _ hP hD hS (lv_sub hl [0, 1, 2, 3] rfl)
  · replace hw := And.right hw c16
    refine lv_iload_n hx hb dX4_blend_4 rfl (lv_at hl 1 rfl) ?_
    refine lv_bipush (v := 15) hx hb dX4_blend_5 (by decide) ?_
    refine lv_icmp_gt (tgt := 34) hx hb dX4_blend_7 (by decide) (fun c15 => ?_) (fun c15 => ?_)
    · replace hw := And.left hw c15
      exact J34 _ _ _ _ hw _ _ _ hP hD hS (lv_sub hl [0, 1, 2, 3] rfl)
    · replace hw := And.right hw c15
      refine lv_iload_n hx hb dX4_blend_10 rfl (lv_at hl 2 rfl) ?_
      refine lv_if_lt (tgt := 34) hx hb dX4_blend_11 (by decide) (fun c14 => ?_) (fun c14 => ?_)
      · replace hw := And.left hw c14
        exact J34 _ _ _ _ hw _ _ _ hP hD hS (lv_sub hl [0, 1, 2, 3] rfl)
      · replace hw := And.right hw c14
        refine lv_iload_n hx hb dX4_blend_14 rfl (lv_at hl 2 rfl) ?_
        refine lv_ldc hx hb hown (hts _ (xm m754)) dX4_blend_15 ?_
        refine lv_icmp_gt (tgt := 34) hx hb dX4_blend_17 (by decide) (fun c13 => ?_) (fun c13 => ?_)
        · replace hw := And.left hw c13
          exact J34 _ _ _ _ hw _ _ _ hP hD hS (lv_sub hl [0, 1, 2, 3] rfl)
        · replace hw := And.right hw c13
          refine lv_iload_n hx hb dX4_blend_20 rfl (lv_at hl 3 rfl) ?_
          refine lv_if_lt (tgt := 34) hx hb dX4_blend_21 (by decide) (fun c12 => ?_) (fun c12 => ?_)
          · replace hw := And.left hw c12
            exact J34 _ _ _ _ hw _ _ _ hP hD hS (lv_sub hl [0, 1, 2, 3] rfl)
          · replace hw := And.right hw c12
            refine lv_iload_n hx hb dX4_blend_24 rfl (lv_at hl 3 rfl) ?_
            refine lv_ldc hx hb hown (hts _ (xm m754)) dX4_blend_25 ?_
            refine lv_icmp_gt (tgt := 34) hx hb dX4_blend_27 (by decide) (fun c11 => ?_) (fun c11 => ?_)
            · replace hw := And.left hw c11
              exact J34 _ _ _ _ hw _ _ _ hP hD hS (lv_sub hl [0, 1, 2, 3] rfl)
            · replace hw := And.right hw c11
              refine lv_iconst (v := 1) hx hb dX4_blend_30 (by decide) ?_
              refine lv_goto (tgt := 35) hx hb dX4_blend_31 (by decide) ?_
              exact J35 _ _ _ _ _ hw _ _ _ hP hD hS (lv_sub hl [0, 1, 2, 3] rfl)
