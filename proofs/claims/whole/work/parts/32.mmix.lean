theorem m15 : Cond.selects RX4 yX4_copy yX4_copy ∈ gG := gG_mk (i := 15) (by decide +kernel) (by decide +kernel)
theorem m16 : Cond.selects RX4 yX4_setSat yX4_setSat ∈ gG := gG_mk (i := 16) (by decide +kernel) (by decide +kernel)
theorem m17 : Cond.selects RX4 yX4_setLum yX4_setLum ∈ gG := gG_mk (i := 17) (by decide +kernel) (by decide +kernel)
theorem m547 : Cond.fieldLink RX4 54 "BlendRowsModel" "top" "[I" ∈ gG := gG_mk (i := 547) (by decide +kernel) (by decide +kernel)
theorem m548 : Cond.fieldLink RX4 57 "BlendRowsModel" "below" "[I" ∈ gG := gG_mk (i := 548) (by decide +kernel) (by decide +kernel)
theorem m549 : Cond.fieldLink RX4 60 "BlendRowsModel" "made" "[I" ∈ gG := gG_mk (i := 549) (by decide +kernel) (by decide +kernel)
theorem m550 : Cond.fieldLink RX4 63 "BlendRowsModel" "some" "[I" ∈ gG := gG_mk (i := 550) (by decide +kernel) (by decide +kernel)
theorem m653 : Cond.methodLink RX4 107 yX4_ofBytes ∈ gG := gG_mk (i := 653) (by decide +kernel) (by decide +kernel)
theorem m654 : Cond.static yX4_ofBytes ∈ gG := gG_mk (i := 654) (by decide +kernel) (by decide +kernel)
theorem m655 : Cond.code yX4_ofBytes cX4_ofBytes 4 (some .int) ∈ gG := gG_mk (i := 655) (by decide +kernel) (by decide +kernel)
theorem m668 : Cond.methodLink RX4 111 yX4_copy ∈ gG := gG_mk (i := 668) (by decide +kernel) (by decide +kernel)
theorem m670 : Cond.instanceMethod yX4_copy ∈ gG := gG_mk (i := 670) (by decide +kernel) (by decide +kernel)
theorem m671 : Cond.code yX4_copy cX4_copy 3 none ∈ gG := gG_mk (i := 671) (by decide +kernel) (by decide +kernel)
theorem m672 : Cond.methodLink RX4 101 yX4_sat ∈ gG := gG_mk (i := 672) (by decide +kernel) (by decide +kernel)
theorem m673 : Cond.static yX4_sat ∈ gG := gG_mk (i := 673) (by decide +kernel) (by decide +kernel)
theorem m674 : Cond.code yX4_sat cX4_sat 1 (some .int) ∈ gG := gG_mk (i := 674) (by decide +kernel) (by decide +kernel)
theorem m681 : Cond.methodLink RX4 115 yX4_setSat ∈ gG := gG_mk (i := 681) (by decide +kernel) (by decide +kernel)
theorem m683 : Cond.instanceMethod yX4_setSat ∈ gG := gG_mk (i := 683) (by decide +kernel) (by decide +kernel)
theorem m684 : Cond.code yX4_setSat cX4_setSat 5 none ∈ gG := gG_mk (i := 684) (by decide +kernel) (by decide +kernel)
theorem m685 : Cond.methodLink RX4 104 yX4_lum ∈ gG := gG_mk (i := 685) (by decide +kernel) (by decide +kernel)
theorem m686 : Cond.static yX4_lum ∈ gG := gG_mk (i := 686) (by decide +kernel) (by decide +kernel)
theorem m687 : Cond.code yX4_lum cX4_lum 1 (some .int) ∈ gG := gG_mk (i := 687) (by decide +kernel) (by decide +kernel)
theorem m691 : Cond.methodLink RX4 119 yX4_setLum ∈ gG := gG_mk (i := 691) (by decide +kernel) (by decide +kernel)
theorem m693 : Cond.instanceMethod yX4_setLum ∈ gG := gG_mk (i := 693) (by decide +kernel) (by decide +kernel)
theorem m694 : Cond.code yX4_setLum cX4_setLum 7 none ∈ gG := gG_mk (i := 694) (by decide +kernel) (by decide +kernel)
abbrev wX4_setSat : List Cond := Cond.code yX4_setSat cX4_setSat 5 none :: gG
def wp_X4_setSat_52 (K : (Nat → Nat → Int32) → Int32 → Prop) (um : Nat → Nat → Int32) (x1 : Int32) (x2 : Int32) (x3 : Int32) (x4 : Int32) (s0 : Int32) (s1 : Int32) : Prop :=
  (vp_in s1 3 ∧ ∀ um3 : Nat → Nat → Int32, um3 = st um 15 s1.toNatClampNeg s0 → ∀ v4 : Int32, v4 = x4 + 1 → K um3 v4)
def wp_X4_setSat_19 (KX : (Nat → Nat → Int32) → Prop) (x1 : Int32) (x2 : Int32) (x3 : Int32) : Nat → (Nat → Nat → Int32) → Int32 → Prop
  | 0, _, _ => False
  | N19 + 1, um, x4 =>
    ((3 ≤ x4 → KX um) ∧
  (¬ 3 ≤ x4 → ((¬ x3 = 0 → (vp_in x4 3 ∧ (¬ x3 = 0 ∧ wp_X4_setSat_52 (wp_X4_setSat_19 KX x1 x2 x3 N19) um x1 x2 x3 x4 ((((um 15 x4.toNatClampNeg) - x2) * x1) / x3) x4))) ∧
  (x3 = 0 → wp_X4_setSat_52 (wp_X4_setSat_19 KX x1 x2 x3 N19) um x1 x2 x3 x4 0 x4))))
def wp_X4_setSat (um : Nat → Nat → Int32) (p0 : Int32) (P : (Nat → Nat → Int32) → Prop) : Prop :=
  wp_X4_least (um 15) (fun r1 => wp_X4_sat (um 15) (fun r2 => (∃ N19, wp_X4_setSat_19 (fun (um7 : Nat → Nat → Int32) => P um7) p0 r1 r2 N19 um 0)))
abbrev rm_X4_setSat : Room := { frames := 2, cells := 0, slots := 0, locals := 41 }
set_option maxHeartbeats 4000000 in
set_option maxRecDepth 100000 in
theorem c_X4_setSat (l : Launch) (dC : Nat → ClassId) (dI : Nat → Nat → Nat) (cA : Nat → ClassId) (gm : Nat → Nat) (sz : Nat) (um : Nat → Nat → Int32) (p0 : Int32) (P : (Nat → Nat → Int32) → Prop) (hw : wp_X4_setSat um p0 P) : Met l yX4_setSat wX4_setSat rm_X4_setSat (xP2 dC dI cA (w_md gm cA um) sz [.ref (gm 0), .int p0]) (va_Qv (fun (u : (Nat → Nat → Int32)) => P u) (xB dC dI cA (fun u : (Nat → Nat → Int32) => w_md gm cA u) (va_A (w_md gm cA um) sz)) (va_A (w_md gm cA um) sz)) 0 0 (va_A (w_md gm cA um) sz) := by
  refine Met.ofW (cc := cX4_setSat) (maxL := 5) (ret := none) (by decide) rfl ?_
  intro p e s m args below meth c s₁ B hml hv
  obtain ⟨hargs, hsz, hP, hK, hD0⟩ := hv
  have hx := B.exec
  have hb := B.bytes
  have hr := B.returns
  have hts := atoms_spec (ws := wX4_setSat) B.pre
  have hown : s.vm.findClass RX4 = some m.cls := findClass_of_methodNamed B.named
  have hlocks := B.notSynchronized
  subst hsz
  have hD := hD0.self (sz := s.heap.size)
  generalize hAe : va_A (w_md gm cA um) s.heap.size = A at hD ⊢
  have hA : ∀ q : Nat, s.heap.size ≤ q → A q := fun q h => by rw [← hAe]; exact Or.inr h
  have hS : va_S A s.heap s.heap [] := va_S.rf
  clear hAe hD0
  have J52 : ∀ (K : (Nat → Nat → Int32) → Int32 → Prop) (um : Nat → Nat → Int32) (x1 : Int32) (x2 : Int32) (x3 : Int32) (x4 : Int32) (s0 : Int32) (s1 : Int32), wp_X4_setSat_52 K um x1 x2 x3 x4 s0 s1 → (∀ (um : Nat → Nat → Int32) (x4 : Int32), K um x4 → ∀ (H : Heap) (locs : List Loc) (ls : Array Slot), va_P (dC, dI) vwCl (w_md gm cA um) H → va_D A (w_md gm cA um) → va_S A s.heap H locs → lv_has ls 5 [(0, .ref (gm 0)), (1, .int x1), (2, .int x2), (3, .int x3), (4, .int x4)] → W p l e (headSpec wX4_setSat rm_X4_setSat).room s m args below meth c H locs 0 0 (MQ below (va_Qv (fun (u : (Nat → Nat → Int32)) => P u) (xB dC dI cA (fun u : (Nat → Nat → Int32) => w_md gm cA u) A) A) args s 0 0 A) (F0 m 19 ls [])) → ∀ (H : Heap) (locs : List Loc) (ls : Array Slot), va_P (dC, dI) vwCl (w_md gm cA um) H → va_D A (w_md gm cA um) → va_S A s.heap H locs → lv_has ls 5 [(0, .ref (gm 0)), (1, .int x1), (2, .int x2), (3, .int x3), (4, .int x4)] → W p l e (headSpec wX4_setSat rm_X4_setSat).room s m args below meth c H locs 0 0 (MQ below (va_Qv (fun (u : (Nat → Nat → Int32)) => P u) (xB dC dI cA (fun u : (Nat → Nat → Int32) => w_md gm cA u) A) A) args s 0 0 A) (F0 m 52 ls [.int s0, .int s1, .ref (gm 15)]) := by
    intro K um x1 x2 x3 x4 s0 s1 hw hk H locs ls hP hD hS hl
    obtain ⟨um3, e_um3⟩ : ∃ z, z = st um 15 s1.toNatClampNeg s0 := ⟨_, rfl⟩
    refine va_iast hx hb hK hP hD hS 15 0 rfl rfl (And.left hw) dX4_setSat_52 (fun H locs hP hD hS => ?_)
    replace hw := And.right hw
    replace hw := hw um3 e_um3
    have hP : va_P (dC, dI) vwCl (w_md gm cA um3) H := by rw [e_um3]; exact hP
    have hD : va_D A (w_md gm cA um3) := by rw [e_um3]; exact hD
    obtain ⟨v4, e_v4⟩ : ∃ y : Int32, y = x4 + 1 := ⟨_, rfl⟩
    replace hw := hw v4 e_v4
    refine lv_iinc (v := v4) (lv' := [(4, .int v4), (0, .ref (gm 0)), (1, .int x1), (2, .int x2), (3, .int x3)]) hx hb dX4_setSat_53 hl (k := 4) rfl (by rw [e_v4]; rfl) (by decide) rfl (fun ls hl => ?_)
    refine lv_goto (tgt := 19) hx hb dX4_setSat_56 (by decide) ?_
    exact hk _ _ hw _ _ _ hP hD hS (lv_sub hl [1, 2, 3, 4, 0] rfl)
  have L19 : ∀ (KX : (Nat → Nat → Int32) → Prop) (x1 : Int32) (x2 : Int32) (x3 : Int32), (∀ (um : Nat → Nat → Int32), KX um → ∀ (H : Heap) (locs : List Loc) (ls : Array Slot), va_P (dC, dI) vwCl (w_md gm cA um) H → va_D A (w_md gm cA um) → va_S A s.heap H locs → lv_has ls 5 [] → W p l e (headSpec wX4_setSat rm_X4_setSat).room s m args below meth c H locs 0 0 (MQ below (va_Qv (fun (u : (Nat → Nat → Int32)) => P u) (xB dC dI cA (fun u : (Nat → Nat → Int32) => w_md gm cA u) A) A) args s 0 0 A) (F0 m 59 ls [])) → ∀ (N : Nat) (um : Nat → Nat → Int32) (x4 : Int32), wp_X4_setSat_19 KX x1 x2 x3 N um x4 → ∀ (H : Heap) (locs : List Loc) (ls : Array Slot), va_P (dC, dI) vwCl (w_md gm cA um) H → va_D A (w_md gm cA um) → va_S A s.heap H locs → lv_has ls 5 [(0, .ref (gm 0)), (1, .int x1), (2, .int x2), (3, .int x3), (4, .int x4)] → W p l e (headSpec wX4_setSat rm_X4_setSat).room s m args below meth c H locs 0 0 (MQ below (va_Qv (fun (u : (Nat → Nat → Int32)) => P u) (xB dC dI cA (fun u : (Nat → Nat → Int32) => w_md gm cA u) A) A) args s 0 0 A) (F0 m 19 ls []) := by
    intro KX x1 x2 x3 hx2 N19
    induction N19 with
    | zero =>
      intro um x4 hw
      exact False.elim hw
    | succ N19 hk =>
      intro um x4 hw H locs ls hP hD hS hl
      rw [wp_X4_setSat_19] at hw
      refine lv_iload hx hb dX4_setSat_19 (lv_at hl 4 rfl) ?_
      refine lv_iconst (v := 3) hx hb dX4_setSat_21 (by decide) ?_
      refine lv_icmp_ge (tgt := 59) hx hb dX4_setSat_22 (by decide) (fun c6 => ?_) (fun c6 => ?_)
      · replace hw := And.left hw c6
        exact hx2 _ hw _ _ _ hP hD hS (lv_sub hl [] rfl)
      · replace hw := And.right hw c6
        refine lv_aload_n hx hb dX4_setSat_25 rfl (lv_at hl 0 rfl) ?_
        refine va_get (D := (dC, dI)) (ci := 3) (v := .ref (gm 15)) (C := RX4) (T := TX4) (N := 23) hx hb hts iX4 hown hK hP 0 rfl rfl 22 (by decide) (hts _ (xm m550)) (fun _ h9 => h9) rfl dX4_setSat_26 ?_
        refine lv_iload hx hb dX4_setSat_29 (lv_at hl 4 rfl) ?_
        refine lv_iload_n hx hb dX4_setSat_31 rfl (lv_at hl 3 rfl) ?_
        refine lv_if_ne (tgt := 39) hx hb dX4_setSat_32 (by decide) (fun c5 => ?_) (fun c5 => ?_)
        · replace hw := And.left hw c5
          refine lv_aload_n hx hb dX4_setSat_39 rfl (lv_at hl 0 rfl) ?_
          refine va_get (D := (dC, dI)) (ci := 3) (v := .ref (gm 15)) (C := RX4) (T := TX4) (N := 23) hx hb hts iX4 hown hK hP 0 rfl rfl 22 (by decide) (hts _ (xm m550)) (fun _ h9 => h9) rfl dX4_setSat_40 ?_
          refine lv_iload hx hb dX4_setSat_43 (lv_at hl 4 rfl) ?_
          refine va_iald hx hb hK hP 15 0 rfl rfl (And.left hw) dX4_setSat_45 ?_
          replace hw := And.right hw
          refine lv_iload_n hx hb dX4_setSat_46 rfl (lv_at hl 2 rfl) ?_
          refine lv_isub hx hb dX4_setSat_47 ?_
          refine lv_iload_n hx hb dX4_setSat_48 rfl (lv_at hl 1 rfl) ?_
          refine lv_imul hx hb dX4_setSat_49 ?_
          refine lv_iload_n hx hb dX4_setSat_50 rfl (lv_at hl 3 rfl) ?_
          refine lv_idiv hx hb dX4_setSat_51 (And.left hw) ?_
          replace hw := And.right hw
          exact J52 _ _ _ _ _ _ _ _ hw hk _ _ _ hP hD hS (lv_sub hl [0, 1, 2, 3, 4] rfl)
        · replace hw := And.right hw c5
          refine lv_iconst (v := 0) hx hb dX4_setSat_35 (by decide) ?_
          refine lv_goto (tgt := 52) hx hb dX4_setSat_36 (by decide) ?_
          exact J52 _ _ _ _ _ _ _ _ hw hk _ _ _ hP hD hS (lv_sub hl [0, 1, 2, 3, 4] rfl)
  have hl := lv_entry ([.ref (gm 0), .int p0]) (n := 5) (Nat.le_of_ble_eq_true rfl)
  rw [show entryFrame m args 5 = entryFrame m (([.ref (gm 0), .int p0] : List Value).toArray) 5 from by rw [hargs], lg_entry_eq]
  generalize (lg_sl ([.ref (gm 0), .int p0]) ++ List.replicate (5 - (lg_sl ([.ref (gm 0), .int p0])).length) Slot.unset).toArray = ls at hl ⊢
  have hl : lv_has ls 5 [(0, .ref (gm 0)), (1, .int p0)] := hl
  have hP : va_P (dC, dI) vwCl (w_md gm cA um) s.heap := hP
  refine lv_aload_n hx hb dX4_setSat_0 rfl (lv_at hl 0 rfl) ?_
  refine va_get (D := (dC, dI)) (ci := 3) (v := .ref (gm 15)) (C := RX4) (T := TX4) (N := 23) hx hb hts iX4 hown hK hP 0 rfl rfl 22 (by decide) (hts _ (xm m550)) (fun _ h9 => h9) rfl dX4_setSat_1 ?_
  have hPc := hP.sub (ws' := (w_a3 (gm 15) cA (um 15))) [15] rfl
  refine vp_callSi (va_Run.run (va_runS (As := [.ref (gm 15)]) (rest := []) ⟨hx, hb, hml, hown, hts⟩ (c_X4_least l dC dI cA (gm 15) (um 15) _ hw) (gcS 1 hts m680 m678 m679 m24 rfl rfl (by decide +kernel) ⟨Nat.le_of_ble_eq_true rfl, Nat.le_of_ble_eq_true rfl⟩) ⟨xbl1, fun U hU hW => ⟨rfl, by rw [hU]; exact hPc, va_K.moved hW.alike hK⟩⟩ rfl rfl hl.1 rfl (lv_room (Nat.le_of_ble_eq_true rfl)) dX4_setSat_4 ⟨Nat.le_of_ble_eq_true rfl, Nat.le_of_ble_eq_true rfl⟩)) (fun r1 hw => ?_)
  refine lv_istore_n (lv' := [(2, .int r1), (0, .ref (gm 0)), (1, .int p0)]) hx hb dX4_setSat_7 rfl hl (by decide) rfl (fun ls hl => ?_)
  refine lv_aload_n hx hb dX4_setSat_8 rfl (lv_at hl 1 rfl) ?_
  refine va_get (D := (dC, dI)) (ci := 3) (v := .ref (gm 15)) (C := RX4) (T := TX4) (N := 23) hx hb hts iX4 hown hK hP 0 rfl rfl 22 (by decide) (hts _ (xm m550)) (fun _ h9 => h9) rfl dX4_setSat_9 ?_
  have hPc := hP.sub (ws' := (w_a3 (gm 15) cA (um 15))) [15] rfl
  refine vp_callSi (va_Run.run (va_runS (As := [.ref (gm 15)]) (rest := []) ⟨hx, hb, hml, hown, hts⟩ (c_X4_sat l dC dI cA (gm 15) (um 15) _ hw) (gcS 1 hts m674 m672 m673 m24 rfl rfl (by decide +kernel) ⟨Nat.le_of_ble_eq_true rfl, Nat.le_of_ble_eq_true rfl⟩) ⟨xbl1, fun U hU hW => ⟨rfl, by rw [hU]; exact hPc, va_K.moved hW.alike hK⟩⟩ rfl rfl hl.1 rfl (lv_room (Nat.le_of_ble_eq_true rfl)) dX4_setSat_12 ⟨Nat.le_of_ble_eq_true rfl, Nat.le_of_ble_eq_true rfl⟩)) (fun r2 hw => ?_)
  refine lv_istore_n (lv' := [(3, .int r2), (2, .int r1), (0, .ref (gm 0)), (1, .int p0)]) hx hb dX4_setSat_15 rfl hl (by decide) rfl (fun ls hl => ?_)
  refine lv_iconst (v := 0) hx hb dX4_setSat_16 (by decide) ?_
  refine lv_istore (lv' := [(4, .int 0), (3, .int r2), (2, .int r1), (0, .ref (gm 0)), (1, .int p0)]) hx hb dX4_setSat_17 hl (by decide) rfl (fun ls hl => ?_)
  obtain ⟨N19, hw⟩ := hw
  refine L19 _ _ _ _ (fun um7 hw H locs ls hP hD hS hl => ?_) N19 _ _ hw _ _ _ hP hD hS (lv_sub hl [3, 4, 2, 1, 0] rfl)
  exact W.vret hx hb hr (fun t ht hW => ⟨⟨um7, rfl, hw, by rw [ht]; exact hP, va_K.moved hW.alike hK, hD⟩, hS.F ht⟩) hS.2.2 dX4_setSat_59
abbrev wX4_setLum : List Cond := Cond.code yX4_setLum cX4_setLum 7 none :: gG
def wp_X4_setLum_12 (KX : (Nat → Nat → Int32) → Prop) (x2 : Int32) : Nat → (Nat → Nat → Int32) → Int32 → Prop
  | 0, _, _ => False
  | N12 + 1, um, x3 =>
    ((3 ≤ x3 → KX um) ∧
  (¬ 3 ≤ x3 → (vp_in x3 3 ∧ (vp_in x3 3 ∧ ∀ um3 : Nat → Nat → Int32, um3 = st um 15 x3.toNatClampNeg ((um 15 x3.toNatClampNeg) + x2) → ∀ v4 : Int32, v4 = x3 + 1 → wp_X4_setLum_12 KX x2 N12 um3 v4))))
def wp_X4_setLum_66 (KX : (Nat → Nat → Int32) → Prop) (x3 : Int32) (x4 : Int32) (x5 : Int32) : Nat → (Nat → Nat → Int32) → Int32 → Prop
  | 0, _, _ => False
  | N66 + 1, um, x6 =>
    ((3 ≤ x6 → KX um) ∧
  (¬ 3 ≤ x6 → ((0 ≤ x4 → KX um) ∧
  (¬ 0 ≤ x4 → (vp_in x6 3 ∧ wp_X4_down (((um 15 x6.toNatClampNeg) - x3) * x3) (x3 - x4) (fun r10 => (vp_in x6 3 ∧ ∀ um11 : Nat → Nat → Int32, um11 = st um 15 x6.toNatClampNeg (x3 + r10) → ∀ v12 : Int32, v12 = x6 + 1 → wp_X4_setLum_66 KX x3 x4 x5 N66 um11 v12)))))))
def wp_X4_setLum_113 (KX : (Nat → Nat → Int32) → Prop) (x3 : Int32) (x5 : Int32) : Nat → (Nat → Nat → Int32) → Int32 → Prop
  | 0, _, _ => False
  | N113 + 1, um, x6 =>
    ((3 ≤ x6 → KX um) ∧
  (¬ 3 ≤ x6 → ((x5 ≤ 255 → KX um) ∧
  (¬ x5 ≤ 255 → (vp_in x6 3 ∧ wp_X4_down (((um 15 x6.toNatClampNeg) - x3) * (255 - x3)) (x5 - x3) (fun r16 => (vp_in x6 3 ∧ ∀ um17 : Nat → Nat → Int32, um17 = st um 15 x6.toNatClampNeg (x3 + r16) → ∀ v18 : Int32, v18 = x6 + 1 → wp_X4_setLum_113 KX x3 x5 N113 um17 v18)))))))
def wp_X4_setLum_219 (K : (Nat → Nat → Int32) → Int32 → Prop) (um : Nat → Nat → Int32) (x6 : Int32) (s0 : Int32) (s1 : Int32) : Prop :=
  (vp_in s1 3 ∧ ∀ um22 : Nat → Nat → Int32, um22 = st um 15 s1.toNatClampNeg s0 → ∀ v23 : Int32, v23 = x6 + 1 → K um22 v23)
def wp_X4_setLum_167 (KX : (Nat → Nat → Int32) → Prop) : Nat → (Nat → Nat → Int32) → Int32 → Prop
  | 0, _, _ => False
  | N167 + 1, um, x6 =>
    ((3 ≤ x6 → KX um) ∧
  (¬ 3 ≤ x6 → (vp_in x6 3 ∧ ((0 ≤ (um 15 x6.toNatClampNeg) → (vp_in x6 3 ∧ (((um 15 x6.toNatClampNeg) ≤ 255 → (vp_in x6 3 ∧ wp_X4_setLum_219 (wp_X4_setLum_167 KX N167) um x6 (um 15 x6.toNatClampNeg) x6)) ∧
  (¬ (um 15 x6.toNatClampNeg) ≤ 255 → wp_X4_setLum_219 (wp_X4_setLum_167 KX N167) um x6 255 x6)))) ∧
  (¬ 0 ≤ (um 15 x6.toNatClampNeg) → wp_X4_setLum_219 (wp_X4_setLum_167 KX N167) um x6 0 x6)))))
def wp_X4_setLum_164 (P : (Nat → Nat → Int32) → Prop) (um : Nat → Nat → Int32) : Prop :=
  (∃ N167, wp_X4_setLum_167 (fun (um27 : Nat → Nat → Int32) => P um27) N167 um 0)
def wp_X4_setLum_110 (P : (Nat → Nat → Int32) → Prop) (um : Nat → Nat → Int32) (x3 : Int32) (x5 : Int32) : Prop :=
  (∃ N113, wp_X4_setLum_113 (fun (um21 : Nat → Nat → Int32) => wp_X4_setLum_164 P um21) x3 x5 N113 um 0)
def wp_X4_setLum (um : Nat → Nat → Int32) (p0 : Int32) (P : (Nat → Nat → Int32) → Prop) : Prop :=
  wp_X4_lum (um 15) (fun r1 => ∀ v2 : Int32, v2 = (p0 - r1) → (∃ N12, wp_X4_setLum_12 (fun (um6 : Nat → Nat → Int32) => wp_X4_lum (um6 15) (fun r7 => wp_X4_least (um6 15) (fun r8 => wp_X4_greatest (um6 15) (fun r9 => (∃ N66, wp_X4_setLum_66 (fun (um15 : Nat → Nat → Int32) => wp_X4_setLum_110 P um15 r7 r9) r7 r8 r9 N66 um6 0))))) v2 N12 um 0))
abbrev rm_X4_setLum : Room := { frames := 2, cells := 0, slots := 0, locals := 42 }
set_option maxHeartbeats 4000000 in
set_option maxRecDepth 100000 in
theorem c_X4_setLum (l : Launch) (dC : Nat → ClassId) (dI : Nat → Nat → Nat) (cA : Nat → ClassId) (gm : Nat → Nat) (sz : Nat) (um : Nat → Nat → Int32) (p0 : Int32) (P : (Nat → Nat → Int32) → Prop) (hw : wp_X4_setLum um p0 P) : Met l yX4_setLum wX4_setLum rm_X4_setLum (xP2 dC dI cA (w_md gm cA um) sz [.ref (gm 0), .int p0]) (va_Qv (fun (u : (Nat → Nat → Int32)) => P u) (xB dC dI cA (fun u : (Nat → Nat → Int32) => w_md gm cA u) (va_A (w_md gm cA um) sz)) (va_A (w_md gm cA um) sz)) 0 0 (va_A (w_md gm cA um) sz) := by
  refine Met.ofW (cc := cX4_setLum) (maxL := 7) (ret := none) (by decide) rfl ?_
  intro p e s m args below meth c s₁ B hml hv
  obtain ⟨hargs, hsz, hP, hK, hD0⟩ := hv
  have hx := B.exec
  have hb := B.bytes
  have hr := B.returns
  have hts := atoms_spec (ws := wX4_setLum) B.pre
  have hown : s.vm.findClass RX4 = some m.cls := findClass_of_methodNamed B.named
  have hlocks := B.notSynchronized
  subst hsz
  have hD := hD0.self (sz := s.heap.size)
  generalize hAe : va_A (w_md gm cA um) s.heap.size = A at hD ⊢
  have hA : ∀ q : Nat, s.heap.size ≤ q → A q := fun q h => by rw [← hAe]; exact Or.inr h
  have hS : va_S A s.heap s.heap [] := va_S.rf
  clear hAe hD0
  have L12 : ∀ (KX : (Nat → Nat → Int32) → Prop) (x2 : Int32), (∀ (um : Nat → Nat → Int32), KX um → ∀ (H : Heap) (locs : List Loc) (ls : Array Slot), va_P (dC, dI) vwCl (w_md gm cA um) H → va_D A (w_md gm cA um) → va_S A s.heap H locs → lv_has ls 7 [(0, .ref (gm 0))] → W p l e (headSpec wX4_setLum rm_X4_setLum).room s m args below meth c H locs 0 0 (MQ below (va_Qv (fun (u : (Nat → Nat → Int32)) => P u) (xB dC dI cA (fun u : (Nat → Nat → Int32) => w_md gm cA u) A) A) args s 0 0 A) (F0 m 37 ls [])) → ∀ (N : Nat) (um : Nat → Nat → Int32) (x3 : Int32), wp_X4_setLum_12 KX x2 N um x3 → ∀ (H : Heap) (locs : List Loc) (ls : Array Slot), va_P (dC, dI) vwCl (w_md gm cA um) H → va_D A (w_md gm cA um) → va_S A s.heap H locs → lv_has ls 7 [(0, .ref (gm 0)), (2, .int x2), (3, .int x3)] → W p l e (headSpec wX4_setLum rm_X4_setLum).room s m args below meth c H locs 0 0 (MQ below (va_Qv (fun (u : (Nat → Nat → Int32)) => P u) (xB dC dI cA (fun u : (Nat → Nat → Int32) => w_md gm cA u) A) A) args s 0 0 A) (F0 m 12 ls []) := by
    intro KX x2 hx2 N12
    induction N12 with
    | zero =>
      intro um x3 hw
      exact False.elim hw
    | succ N12 hk =>
      intro um x3 hw H locs ls hP hD hS hl
      rw [wp_X4_setLum_12] at hw
      refine lv_iload_n hx hb dX4_setLum_12 rfl (lv_at hl 2 rfl) ?_
      refine lv_iconst (v := 3) hx hb dX4_setLum_13 (by decide) ?_
      refine lv_icmp_ge (tgt := 37) hx hb dX4_setLum_14 (by decide) (fun c5 => ?_) (fun c5 => ?_)
      · replace hw := And.left hw c5
        exact hx2 _ hw _ _ _ hP hD hS (lv_sub hl [0] rfl)
      · replace hw := And.right hw c5
        refine lv_aload_n hx hb dX4_setLum_17 rfl (lv_at hl 0 rfl) ?_
        refine va_get (D := (dC, dI)) (ci := 3) (v := .ref (gm 15)) (C := RX4) (T := TX4) (N := 23) hx hb hts iX4 hown hK hP 0 rfl rfl 22 (by decide) (hts _ (xm m550)) (fun _ h9 => h9) rfl dX4_setLum_18 ?_
        refine lv_iload_n hx hb dX4_setLum_21 rfl (lv_at hl 2 rfl) ?_
        refine lv_aload_n hx hb dX4_setLum_22 rfl (lv_at hl 0 rfl) ?_
        refine va_get (D := (dC, dI)) (ci := 3) (v := .ref (gm 15)) (C := RX4) (T := TX4) (N := 23) hx hb hts iX4 hown hK hP 0 rfl rfl 22 (by decide) (hts _ (xm m550)) (fun _ h9 => h9) rfl dX4_setLum_23 ?_
        refine lv_iload_n hx hb dX4_setLum_26 rfl (lv_at hl 2 rfl) ?_
        refine va_iald hx hb hK hP 15 0 rfl rfl (And.left hw) dX4_setLum_27 ?_
        replace hw := And.right hw
        refine lv_iload_n hx hb dX4_setLum_28 rfl (lv_at hl 1 rfl) ?_
        refine lv_iadd hx hb dX4_setLum_29 ?_
        obtain ⟨um3, e_um3⟩ : ∃ z, z = st um 15 x3.toNatClampNeg ((um 15 x3.toNatClampNeg) + x2) := ⟨_, rfl⟩
        refine va_iast hx hb hK hP hD hS 15 0 rfl rfl (And.left hw) dX4_setLum_30 (fun H locs hP hD hS => ?_)
        replace hw := And.right hw
        replace hw := hw um3 e_um3
        have hP : va_P (dC, dI) vwCl (w_md gm cA um3) H := by rw [e_um3]; exact hP
        have hD : va_D A (w_md gm cA um3) := by rw [e_um3]; exact hD
        obtain ⟨v4, e_v4⟩ : ∃ y : Int32, y = x3 + 1 := ⟨_, rfl⟩
        replace hw := hw v4 e_v4
        refine lv_iinc (v := v4) (lv' := [(3, .int v4), (0, .ref (gm 0)), (2, .int x2)]) hx hb dX4_setLum_31 hl (k := 2) rfl (by rw [e_v4]; rfl) (by decide) rfl (fun ls hl => ?_)
        refine lv_goto (tgt := 12) hx hb dX4_setLum_34 (by decide) ?_
        exact hk _ _ hw _ _ _ hP hD hS (lv_sub hl [1, 2, 0] rfl)
  have L66 : ∀ (KX : (Nat → Nat → Int32) → Prop) (x3 : Int32) (x4 : Int32) (x5 : Int32), (∀ (um : Nat → Nat → Int32), KX um → ∀ (H : Heap) (locs : List Loc) (ls : Array Slot), va_P (dC, dI) vwCl (w_md gm cA um) H → va_D A (w_md gm cA um) → va_S A s.heap H locs → lv_has ls 7 [(0, .ref (gm 0)), (3, .int x3), (5, .int x5)] → W p l e (headSpec wX4_setLum rm_X4_setLum).room s m args below meth c H locs 0 0 (MQ below (va_Qv (fun (u : (Nat → Nat → Int32)) => P u) (xB dC dI cA (fun u : (Nat → Nat → Int32) => w_md gm cA u) A) A) args s 0 0 A) (F0 m 110 ls [])) → ∀ (N : Nat) (um : Nat → Nat → Int32) (x6 : Int32), wp_X4_setLum_66 KX x3 x4 x5 N um x6 → ∀ (H : Heap) (locs : List Loc) (ls : Array Slot), va_P (dC, dI) vwCl (w_md gm cA um) H → va_D A (w_md gm cA um) → va_S A s.heap H locs → lv_has ls 7 [(0, .ref (gm 0)), (3, .int x3), (4, .int x4), (5, .int x5), (6, .int x6)] → W p l e (headSpec wX4_setLum rm_X4_setLum).room s m args below meth c H locs 0 0 (MQ below (va_Qv (fun (u : (Nat → Nat → Int32)) => P u) (xB dC dI cA (fun u : (Nat → Nat → Int32) => w_md gm cA u) A) A) args s 0 0 A) (F0 m 66 ls []) := by
    intro KX x3 x4 x5 hx2 N66
    induction N66 with
    | zero =>
      intro um x6 hw
      exact False.elim hw
    | succ N66 hk =>
      intro um x6 hw H locs ls hP hD hS hl
      rw [wp_X4_setLum_66] at hw
      refine lv_iload hx hb dX4_setLum_66 (lv_at hl 4 rfl) ?_
      refine lv_iconst (v := 3) hx hb dX4_setLum_68 (by decide) ?_
      refine lv_icmp_ge (tgt := 110) hx hb dX4_setLum_69 (by decide) (fun c14 => ?_) (fun c14 => ?_)
      · replace hw := And.left hw c14
        exact hx2 _ hw _ _ _ hP hD hS (lv_sub hl [0, 1, 3] rfl)
      · replace hw := And.right hw c14
        refine lv_iload hx hb dX4_setLum_72 (lv_at hl 2 rfl) ?_
        refine lv_if_ge (tgt := 110) hx hb dX4_setLum_74 (by decide) (fun c13 => ?_) (fun c13 => ?_)
        · replace hw := And.left hw c13
          exact hx2 _ hw _ _ _ hP hD hS (lv_sub hl [0, 1, 3] rfl)
        · replace hw := And.right hw c13
          refine lv_aload_n hx hb dX4_setLum_77 rfl (lv_at hl 0 rfl) ?_
          refine va_get (D := (dC, dI)) (ci := 3) (v := .ref (gm 15)) (C := RX4) (T := TX4) (N := 23) hx hb hts iX4 hown hK hP 0 rfl rfl 22 (by decide) (hts _ (xm m550)) (fun _ h9 => h9) rfl dX4_setLum_78 ?_
          refine lv_iload hx hb dX4_setLum_81 (lv_at hl 4 rfl) ?_
          refine lv_iload_n hx hb dX4_setLum_83 rfl (lv_at hl 1 rfl) ?_
          refine lv_aload_n hx hb dX4_setLum_84 rfl (lv_at hl 0 rfl) ?_
          refine va_get (D := (dC, dI)) (ci := 3) (v := .ref (gm 15)) (C := RX4) (T := TX4) (N := 23) hx hb hts iX4 hown hK hP 0 rfl rfl 22 (by decide) (hts _ (xm m550)) (fun _ h9 => h9) rfl dX4_setLum_85 ?_
          refine lv_iload hx hb dX4_setLum_88 (lv_at hl 4 rfl) ?_
          refine va_iald hx hb hK hP 15 0 rfl rfl (And.left hw) dX4_setLum_90 ?_
          replace hw := And.right hw
          refine lv_iload_n hx hb dX4_setLum_91 rfl (lv_at hl 1 rfl) ?_
          refine lv_isub hx hb dX4_setLum_92 ?_
          refine lv_iload_n hx hb dX4_setLum_93 rfl (lv_at hl 1 rfl) ?_
          refine lv_imul hx hb dX4_setLum_94 ?_
          refine lv_iload_n hx hb dX4_setLum_95 rfl (lv_at hl 1 rfl) ?_
          refine lv_iload hx hb dX4_setLum_96 (lv_at hl 2 rfl) ?_
          refine lv_isub hx hb dX4_setLum_98 ?_
          refine vp_callSi (va_Run.run (va_runS (As := [.int (((um 15 x6.toNatClampNeg) - x3) * x3), .int (x3 - x4)]) (rest := [.int x3, .int x6, .ref (gm 15)]) ⟨hx, hb, hml, hown, hts⟩ (c_X4_down l (((um 15 x6.toNatClampNeg) - x3) * x3) (x3 - x4) _ hw) (gcS 2 hts m690 m688 m689 m24 rfl rfl (by decide +kernel) ⟨Nat.le_of_ble_eq_true rfl, Nat.le_of_ble_eq_true rfl⟩) ⟨xbl0, fun U hU hW => ⟨rfl, trivial⟩⟩ rfl rfl hl.1 rfl (lv_room (Nat.le_of_ble_eq_true rfl)) dX4_setLum_99 ⟨Nat.le_of_ble_eq_true rfl, Nat.le_of_ble_eq_true rfl⟩)) (fun r10 hw => ?_)
          refine lv_iadd hx hb dX4_setLum_102 ?_
          obtain ⟨um11, e_um11⟩ : ∃ z, z = st um 15 x6.toNatClampNeg (x3 + r10) := ⟨_, rfl⟩
          refine va_iast hx hb hK hP hD hS 15 0 rfl rfl (And.left hw) dX4_setLum_103 (fun H locs hP hD hS => ?_)
          replace hw := And.right hw
          replace hw := hw um11 e_um11
          have hP : va_P (dC, dI) vwCl (w_md gm cA um11) H := by rw [e_um11]; exact hP
          have hD : va_D A (w_md gm cA um11) := by rw [e_um11]; exact hD
          obtain ⟨v12, e_v12⟩ : ∃ y : Int32, y = x6 + 1 := ⟨_, rfl⟩
          replace hw := hw v12 e_v12
          refine lv_iinc (v := v12) (lv' := [(6, .int v12), (0, .ref (gm 0)), (3, .int x3), (4, .int x4), (5, .int x5)]) hx hb dX4_setLum_104 hl (k := 4) rfl (by rw [e_v12]; rfl) (by decide) rfl (fun ls hl => ?_)
          refine lv_goto (tgt := 66) hx hb dX4_setLum_107 (by decide) ?_
          exact hk _ _ hw _ _ _ hP hD hS (lv_sub hl [1, 2, 3, 4, 0] rfl)
  have L113 : ∀ (KX : (Nat → Nat → Int32) → Prop) (x3 : Int32) (x5 : Int32), (∀ (um : Nat → Nat → Int32), KX um → ∀ (H : Heap) (locs : List Loc) (ls : Array Slot), va_P (dC, dI) vwCl (w_md gm cA um) H → va_D A (w_md gm cA um) → va_S A s.heap H locs → lv_has ls 7 [(0, .ref (gm 0))] → W p l e (headSpec wX4_setLum rm_X4_setLum).room s m args below meth c H locs 0 0 (MQ below (va_Qv (fun (u : (Nat → Nat → Int32)) => P u) (xB dC dI cA (fun u : (Nat → Nat → Int32) => w_md gm cA u) A) A) args s 0 0 A) (F0 m 164 ls [])) → ∀ (N : Nat) (um : Nat → Nat → Int32) (x6 : Int32), wp_X4_setLum_113 KX x3 x5 N um x6 → ∀ (H : Heap) (locs : List Loc) (ls : Array Slot), va_P (dC, dI) vwCl (w_md gm cA um) H → va_D A (w_md gm cA um) → va_S A s.heap H locs → lv_has ls 7 [(0, .ref (gm 0)), (3, .int x3), (5, .int x5), (6, .int x6)] → W p l e (headSpec wX4_setLum rm_X4_setLum).room s m args below meth c H locs 0 0 (MQ below (va_Qv (fun (u : (Nat → Nat → Int32)) => P u) (xB dC dI cA (fun u : (Nat → Nat → Int32) => w_md gm cA u) A) A) args s 0 0 A) (F0 m 113 ls []) := by
    intro KX x3 x5 hx2 N113
    induction N113 with
    | zero =>
      intro um x6 hw
      exact False.elim hw
    | succ N113 hk =>
      intro um x6 hw H locs ls hP hD hS hl
      rw [wp_X4_setLum_113] at hw
      refine lv_iload hx hb dX4_setLum_113 (lv_at hl 3 rfl) ?_
      refine lv_iconst (v := 3) hx hb dX4_setLum_115 (by decide) ?_
      refine lv_icmp_ge (tgt := 164) hx hb dX4_setLum_116 (by decide) (fun c20 => ?_) (fun c20 => ?_)
      · replace hw := And.left hw c20
        exact hx2 _ hw _ _ _ hP hD hS (lv_sub hl [0] rfl)
      · replace hw := And.right hw c20
        refine lv_iload hx hb dX4_setLum_119 (lv_at hl 2 rfl) ?_
        refine lv_sipush (v := 255) hx hb dX4_setLum_121 (by decide) ?_
        refine lv_icmp_le (tgt := 164) hx hb dX4_setLum_124 (by decide) (fun c19 => ?_) (fun c19 => ?_)
        · replace hw := And.left hw c19
          exact hx2 _ hw _ _ _ hP hD hS (lv_sub hl [0] rfl)
        · replace hw := And.right hw c19
          refine lv_aload_n hx hb dX4_setLum_127 rfl (lv_at hl 0 rfl) ?_
          refine va_get (D := (dC, dI)) (ci := 3) (v := .ref (gm 15)) (C := RX4) (T := TX4) (N := 23) hx hb hts iX4 hown hK hP 0 rfl rfl 22 (by decide) (hts _ (xm m550)) (fun _ h9 => h9) rfl dX4_setLum_128 ?_
          refine lv_iload hx hb dX4_setLum_131 (lv_at hl 3 rfl) ?_
          refine lv_iload_n hx hb dX4_setLum_133 rfl (lv_at hl 1 rfl) ?_
          refine lv_aload_n hx hb dX4_setLum_134 rfl (lv_at hl 0 rfl) ?_
          refine va_get (D := (dC, dI)) (ci := 3) (v := .ref (gm 15)) (C := RX4) (T := TX4) (N := 23) hx hb hts iX4 hown hK hP 0 rfl rfl 22 (by decide) (hts _ (xm m550)) (fun _ h9 => h9) rfl dX4_setLum_135 ?_
          refine lv_iload hx hb dX4_setLum_138 (lv_at hl 3 rfl) ?_
          refine va_iald hx hb hK hP 15 0 rfl rfl (And.left hw) dX4_setLum_140 ?_
          replace hw := And.right hw
          refine lv_iload_n hx hb dX4_setLum_141 rfl (lv_at hl 1 rfl) ?_
          refine lv_isub hx hb dX4_setLum_142 ?_
          refine lv_sipush (v := 255) hx hb dX4_setLum_143 (by decide) ?_
          refine lv_iload_n hx hb dX4_setLum_146 rfl (lv_at hl 1 rfl) ?_
          refine lv_isub hx hb dX4_setLum_147 ?_
          refine lv_imul hx hb dX4_setLum_148 ?_
          refine lv_iload hx hb dX4_setLum_149 (lv_at hl 2 rfl) ?_
          refine lv_iload_n hx hb dX4_setLum_151 rfl (lv_at hl 1 rfl) ?_
          refine lv_isub hx hb dX4_setLum_152 ?_
          refine vp_callSi (va_Run.run (va_runS (As := [.int (((um 15 x6.toNatClampNeg) - x3) * (255 - x3)), .int (x5 - x3)]) (rest := [.int x3, .int x6, .ref (gm 15)]) ⟨hx, hb, hml, hown, hts⟩ (c_X4_down l (((um 15 x6.toNatClampNeg) - x3) * (255 - x3)) (x5 - x3) _ hw) (gcS 2 hts m690 m688 m689 m24 rfl rfl (by decide +kernel) ⟨Nat.le_of_ble_eq_true rfl, Nat.le_of_ble_eq_true rfl⟩) ⟨xbl0, fun U hU hW => ⟨rfl, trivial⟩⟩ rfl rfl hl.1 rfl (lv_room (Nat.le_of_ble_eq_true rfl)) dX4_setLum_153 ⟨Nat.le_of_ble_eq_true rfl, Nat.le_of_ble_eq_true rfl⟩)) (fun r16 hw => ?_)
          refine lv_iadd hx hb dX4_setLum_156 ?_
          obtain ⟨um17, e_um17⟩ : ∃ z, z = st um 15 x6.toNatClampNeg (x3 + r16) := ⟨_, rfl⟩
          refine va_iast hx hb hK hP hD hS 15 0 rfl rfl (And.left hw) dX4_setLum_157 (fun H locs hP hD hS => ?_)
          replace hw := And.right hw
          replace hw := hw um17 e_um17
          have hP : va_P (dC, dI) vwCl (w_md gm cA um17) H := by rw [e_um17]; exact hP
          have hD : va_D A (w_md gm cA um17) := by rw [e_um17]; exact hD
          obtain ⟨v18, e_v18⟩ : ∃ y : Int32, y = x6 + 1 := ⟨_, rfl⟩
          replace hw := hw v18 e_v18
          refine lv_iinc (v := v18) (lv' := [(6, .int v18), (0, .ref (gm 0)), (3, .int x3), (5, .int x5)]) hx hb dX4_setLum_158 hl (k := 3) rfl (by rw [e_v18]; rfl) (by decide) rfl (fun ls hl => ?_)
          refine lv_goto (tgt := 113) hx hb dX4_setLum_161 (by decide) ?_
          exact hk _ _ hw _ _ _ hP hD hS (lv_sub hl [1, 2, 3, 0] rfl)
  have J219 : ∀ (K : (Nat → Nat → Int32) → Int32 → Prop) (um : Nat → Nat → Int32) (x6 : Int32) (s0 : Int32) (s1 : Int32), wp_X4_setLum_219 K um x6 s0 s1 → (∀ (um : Nat → Nat → Int32) (x6 : Int32), K um x6 → ∀ (H : Heap) (locs : List Loc) (ls : Array Slot), va_P (dC, dI) vwCl (w_md gm cA um) H → va_D A (w_md gm cA um) → va_S A s.heap H locs → lv_has ls 7 [(0, .ref (gm 0)), (6, .int x6)] → W p l e (headSpec wX4_setLum rm_X4_setLum).room s m args below meth c H locs 0 0 (MQ below (va_Qv (fun (u : (Nat → Nat → Int32)) => P u) (xB dC dI cA (fun u : (Nat → Nat → Int32) => w_md gm cA u) A) A) args s 0 0 A) (F0 m 167 ls [])) → ∀ (H : Heap) (locs : List Loc) (ls : Array Slot), va_P (dC, dI) vwCl (w_md gm cA um) H → va_D A (w_md gm cA um) → va_S A s.heap H locs → lv_has ls 7 [(0, .ref (gm 0)), (6, .int x6)] → W p l e (headSpec wX4_setLum rm_X4_setLum).room s m args below meth c H locs 0 0 (MQ below (va_Qv (fun (u : (Nat → Nat → Int32)) => P u) (xB dC dI cA (fun u : (Nat → Nat → Int32) => w_md gm cA u) A) A) args s 0 0 A) (F0 m 219 ls [.int s0, .int s1, .ref (gm 15)]) := by
    intro K um x6 s0 s1 hw hk H locs ls hP hD hS hl
    obtain ⟨um22, e_um22⟩ : ∃ z, z = st um 15 s1.toNatClampNeg s0 := ⟨_, rfl⟩
    refine va_iast hx hb hK hP hD hS 15 0 rfl rfl (And.left hw) dX4_setLum_219 (fun H locs hP hD hS => ?_)
    replace hw := And.right hw
    replace hw := hw um22 e_um22
    have hP : va_P (dC, dI) vwCl (w_md gm cA um22) H := by rw [e_um22]; exact hP
    have hD : va_D A (w_md gm cA um22) := by rw [e_um22]; exact hD
    obtain ⟨v23, e_v23⟩ : ∃ y : Int32, y = x6 + 1 := ⟨_, rfl⟩
    replace hw := hw v23 e_v23
    refine lv_iinc (v := v23) (lv' := [(6, .int v23), (0, .ref (gm 0))]) hx hb dX4_setLum_220 hl (k := 1) rfl (by rw [e_v23]; rfl) (by decide) rfl (fun ls hl => ?_)
    refine lv_goto (tgt := 167) hx hb dX4_setLum_223 (by decide) ?_
    exact hk _ _ hw _ _ _ hP hD hS (lv_sub hl [1, 0] rfl)
  have L167 : ∀ (KX : (Nat → Nat → Int32) → Prop), (∀ (um : Nat → Nat → Int32), KX um → ∀ (H : Heap) (locs : List Loc) (ls : Array Slot), va_P (dC, dI) vwCl (w_md gm cA um) H → va_D A (w_md gm cA um) → va_S A s.heap H locs → lv_has ls 7 [] → W p l e (headSpec wX4_setLum rm_X4_setLum).room s m args below meth c H locs 0 0 (MQ below (va_Qv (fun (u : (Nat → Nat → Int32)) => P u) (xB dC dI cA (fun u : (Nat → Nat → Int32) => w_md gm cA u) A) A) args s 0 0 A) (F0 m 226 ls [])) → ∀ (N : Nat) (um : Nat → Nat → Int32) (x6 : Int32), wp_X4_setLum_167 KX N um x6 → ∀ (H : Heap) (locs : List Loc) (ls : Array Slot), va_P (dC, dI) vwCl (w_md gm cA um) H → va_D A (w_md gm cA um) → va_S A s.heap H locs → lv_has ls 7 [(0, .ref (gm 0)), (6, .int x6)] → W p l e (headSpec wX4_setLum rm_X4_setLum).room s m args below meth c H locs 0 0 (MQ below (va_Qv (fun (u : (Nat → Nat → Int32)) => P u) (xB dC dI cA (fun u : (Nat → Nat → Int32) => w_md gm cA u) A) A) args s 0 0 A) (F0 m 167 ls []) := by
    intro KX hx2 N167
    induction N167 with
    | zero =>
      intro um x6 hw
      exact False.elim hw
    | succ N167 hk =>
      intro um x6 hw H locs ls hP hD hS hl
      rw [wp_X4_setLum_167] at hw
      refine lv_iload hx hb dX4_setLum_167 (lv_at hl 1 rfl) ?_
      refine lv_iconst (v := 3) hx hb dX4_setLum_169 (by decide) ?_
      refine lv_icmp_ge (tgt := 226) hx hb dX4_setLum_170 (by decide) (fun c26 => ?_) (fun c26 => ?_)
      · replace hw := And.left hw c26
        exact hx2 _ hw _ _ _ hP hD hS (lv_sub hl [] rfl)
      · replace hw := And.right hw c26
        refine lv_aload_n hx hb dX4_setLum_173 rfl (lv_at hl 0 rfl) ?_
        refine va_get (D := (dC, dI)) (ci := 3) (v := .ref (gm 15)) (C := RX4) (T := TX4) (N := 23) hx hb hts iX4 hown hK hP 0 rfl rfl 22 (by decide) (hts _ (xm m550)) (fun _ h9 => h9) rfl dX4_setLum_174 ?_
        refine lv_iload hx hb dX4_setLum_177 (lv_at hl 1 rfl) ?_
        refine lv_aload_n hx hb dX4_setLum_179 rfl (lv_at hl 0 rfl) ?_
        refine va_get (D := (dC, dI)) (ci := 3) (v := .ref (gm 15)) (C := RX4) (T := TX4) (N := 23) hx hb hts iX4 hown hK hP 0 rfl rfl 22 (by decide) (hts _ (xm m550)) (fun _ h9 => h9) rfl dX4_setLum_180 ?_
        refine lv_iload hx hb dX4_setLum_183 (lv_at hl 1 rfl) ?_
        refine va_iald hx hb hK hP 15 0 rfl rfl (And.left hw) dX4_setLum_185 ?_
        replace hw := And.right hw
        refine lv_if_ge (tgt := 193) hx hb dX4_setLum_186 (by decide) (fun c25 => ?_) (fun c25 => ?_)
        · replace hw := And.left hw c25
          refine lv_aload_n hx hb dX4_setLum_193 rfl (lv_at hl 0 rfl) ?_
          refine va_get (D := (dC, dI)) (ci := 3) (v := .ref (gm 15)) (C := RX4) (T := TX4) (N := 23) hx hb hts iX4 hown hK hP 0 rfl rfl 22 (by decide) (hts _ (xm m550)) (fun _ h9 => h9) rfl dX4_setLum_194 ?_
          refine lv_iload hx hb dX4_setLum_197 (lv_at hl 1 rfl) ?_
          refine va_iald hx hb hK hP 15 0 rfl rfl (And.left hw) dX4_setLum_199 ?_
          replace hw := And.right hw
          refine lv_sipush (v := 255) hx hb dX4_setLum_200 (by decide) ?_
          refine lv_icmp_le (tgt := 212) hx hb dX4_setLum_203 (by decide) (fun c24 => ?_) (fun c24 => ?_)
          · replace hw := And.left hw c24
            refine lv_aload_n hx hb dX4_setLum_212 rfl (lv_at hl 0 rfl) ?_
            refine va_get (D := (dC, dI)) (ci := 3) (v := .ref (gm 15)) (C := RX4) (T := TX4) (N := 23) hx hb hts iX4 hown hK hP 0 rfl rfl 22 (by decide) (hts _ (xm m550)) (fun _ h9 => h9) rfl dX4_setLum_213 ?_
            refine lv_iload hx hb dX4_setLum_216 (lv_at hl 1 rfl) ?_
            refine va_iald hx hb hK hP 15 0 rfl rfl (And.left hw) dX4_setLum_218 ?_
            replace hw := And.right hw
            exact J219 _ _ _ _ _ hw hk _ _ _ hP hD hS (lv_sub hl [0, 1] rfl)
          · replace hw := And.right hw c24
            refine lv_sipush (v := 255) hx hb dX4_setLum_206 (by decide) ?_
            refine lv_goto (tgt := 219) hx hb dX4_setLum_209 (by decide) ?_
            exact J219 _ _ _ _ _ hw hk _ _ _ hP hD hS (lv_sub hl [0, 1] rfl)
        · replace hw := And.right hw c25
          refine lv_iconst (v := 0) hx hb dX4_setLum_189 (by decide) ?_
          refine lv_goto (tgt := 219) hx hb dX4_setLum_190 (by decide) ?_
          exact J219 _ _ _ _ _ hw hk _ _ _ hP hD hS (lv_sub hl [0, 1] rfl)
  have J164 : ∀ (um : Nat → Nat → Int32), wp_X4_setLum_164 P um → ∀ (H : Heap) (locs : List Loc) (ls : Array Slot), va_P (dC, dI) vwCl (w_md gm cA um) H → va_D A (w_md gm cA um) → va_S A s.heap H locs → lv_has ls 7 [(0, .ref (gm 0))] → W p l e (headSpec wX4_setLum rm_X4_setLum).room s m args below meth c H locs 0 0 (MQ below (va_Qv (fun (u : (Nat → Nat → Int32)) => P u) (xB dC dI cA (fun u : (Nat → Nat → Int32) => w_md gm cA u) A) A) args s 0 0 A) (F0 m 164 ls []) := by
    intro  um hw H locs ls hP hD hS hl
    refine lv_iconst (v := 0) hx hb dX4_setLum_164 (by decide) ?_
    refine lv_istore (lv' := [(6, .int 0), (0, .ref (gm 0))]) hx hb dX4_setLum_165 hl (by decide) rfl (fun ls hl => ?_)
    obtain ⟨N167, hw⟩ := hw
    refine L167 _ (fun um27 hw H locs ls hP hD hS hl => ?_) N167 _ _ hw _ _ _ hP hD hS (lv_sub hl [1, 0] rfl)
    exact W.vret hx hb hr (fun t ht hW => ⟨⟨um27, rfl, hw, by rw [ht]; exact hP, va_K.moved hW.alike hK, hD⟩, hS.F ht⟩) hS.2.2 dX4_setLum_226
  have J110 : ∀ (um : Nat → Nat → Int32) (x3 : Int32) (x5 : Int32), wp_X4_setLum_110 P um x3 x5 → ∀ (H : Heap) (locs : List Loc) (ls : Array Slot), va_P (dC, dI) vwCl (w_md gm cA um) H → va_D A (w_md gm cA um) → va_S A s.heap H locs → lv_has ls 7 [(0, .ref (gm 0)), (3, .int x3), (5, .int x5)] → W p l e (headSpec wX4_setLum rm_X4_setLum).room s m args below meth c H locs 0 0 (MQ below (va_Qv (fun (u : (Nat → Nat → Int32)) => P u) (xB dC dI cA (fun u : (Nat → Nat → Int32) => w_md gm cA u) A) A) args s 0 0 A) (F0 m 110 ls []) := by
    intro  um x3 x5 hw H locs ls hP hD hS hl
    refine lv_iconst (v := 0) hx hb dX4_setLum_110 (by decide) ?_
    refine lv_istore (lv' := [(6, .int 0), (0, .ref (gm 0)), (3, .int x3), (5, .int x5)]) hx hb dX4_setLum_111 hl (by decide) rfl (fun ls hl => ?_)
    obtain ⟨N113, hw⟩ := hw
    refine L113 _ _ _ (fun um21 hw H locs ls hP hD hS hl => ?_) N113 _ _ hw _ _ _ hP hD hS (lv_sub hl [1, 2, 3, 0] rfl)
    exact J164 _ hw _ _ _ hP hD hS (lv_sub hl [0] rfl)
  have hl := lv_entry ([.ref (gm 0), .int p0]) (n := 7) (Nat.le_of_ble_eq_true rfl)
  rw [show entryFrame m args 7 = entryFrame m (([.ref (gm 0), .int p0] : List Value).toArray) 7 from by rw [hargs], lg_entry_eq]
  generalize (lg_sl ([.ref (gm 0), .int p0]) ++ List.replicate (7 - (lg_sl ([.ref (gm 0), .int p0])).length) Slot.unset).toArray = ls at hl ⊢
  have hl : lv_has ls 7 [(0, .ref (gm 0)), (1, .int p0)] := hl
  have hP : va_P (dC, dI) vwCl (w_md gm cA um) s.heap := hP
  refine lv_iload_n hx hb dX4_setLum_0 rfl (lv_at hl 1 rfl) ?_
  refine lv_aload_n hx hb dX4_setLum_1 rfl (lv_at hl 0 rfl) ?_
  refine va_get (D := (dC, dI)) (ci := 3) (v := .ref (gm 15)) (C := RX4) (T := TX4) (N := 23) hx hb hts iX4 hown hK hP 0 rfl rfl 22 (by decide) (hts _ (xm m550)) (fun _ h9 => h9) rfl dX4_setLum_2 ?_
  have hPc := hP.sub (ws' := (w_a3 (gm 15) cA (um 15))) [15] rfl
  refine vp_callSi (va_Run.run (va_runS (As := [.ref (gm 15)]) (rest := [.int p0]) ⟨hx, hb, hml, hown, hts⟩ (c_X4_lum l dC dI cA (gm 15) (um 15) _ hw) (gcS 1 hts m687 m685 m686 m24 rfl rfl (by decide +kernel) ⟨Nat.le_of_ble_eq_true rfl, Nat.le_of_ble_eq_true rfl⟩) ⟨xbl1, fun U hU hW => ⟨rfl, by rw [hU]; exact hPc, va_K.moved hW.alike hK⟩⟩ rfl rfl hl.1 rfl (lv_room (Nat.le_of_ble_eq_true rfl)) dX4_setLum_5 ⟨Nat.le_of_ble_eq_true rfl, Nat.le_of_ble_eq_true rfl⟩)) (fun r1 hw => ?_)
  refine lv_isub hx hb dX4_setLum_8 ?_
  refine lv_topi (fun v2 e_v2 => ?_)
  replace hw := hw v2 e_v2
  refine lv_istore_n (lv' := [(2, .int v2), (0, .ref (gm 0)), (1, .int p0)]) hx hb dX4_setLum_9 rfl hl (by decide) rfl (fun ls hl => ?_)
  refine lv_iconst (v := 0) hx hb dX4_setLum_10 (by decide) ?_
  refine lv_istore_n (lv' := [(3, .int 0), (2, .int v2), (0, .ref (gm 0)), (1, .int p0)]) hx hb dX4_setLum_11 rfl hl (by decide) rfl (fun ls hl => ?_)
  obtain ⟨N12, hw⟩ := hw
  refine L12 _ _ (fun um6 hw H locs ls hP hD hS hl => ?_) N12 _ _ hw _ _ _ hP hD hS (lv_sub hl [2, 1, 0] rfl)
  refine lv_aload_n hx hb dX4_setLum_37 rfl (lv_at hl 0 rfl) ?_
  refine va_get (D := (dC, dI)) (ci := 3) (v := .ref (gm 15)) (C := RX4) (T := TX4) (N := 23) hx hb hts iX4 hown hK hP 0 rfl rfl 22 (by decide) (hts _ (xm m550)) (fun _ h9 => h9) rfl dX4_setLum_38 ?_
  have hPc := hP.sub (ws' := (w_a3 (gm 15) cA (um6 15))) [15] rfl
  refine vp_callSi (va_Run.run (va_runS (As := [.ref (gm 15)]) (rest := []) ⟨hx, hb, hml, hown, hts⟩ (c_X4_lum l dC dI cA (gm 15) (um6 15) _ hw) (gcS 1 hts m687 m685 m686 m24 rfl rfl (by decide +kernel) ⟨Nat.le_of_ble_eq_true rfl, Nat.le_of_ble_eq_true rfl⟩) ⟨xbl1, fun U hU hW => ⟨rfl, by rw [hU]; exact hPc, va_K.moved hW.alike hK⟩⟩ rfl rfl hl.1 rfl (lv_room (Nat.le_of_ble_eq_true rfl)) dX4_setLum_41 ⟨Nat.le_of_ble_eq_true rfl, Nat.le_of_ble_eq_true rfl⟩)) (fun r7 hw => ?_)
  refine lv_istore_n (lv' := [(3, .int r7), (0, .ref (gm 0))]) hx hb dX4_setLum_44 rfl hl (by decide) rfl (fun ls hl => ?_)
  refine lv_aload_n hx hb dX4_setLum_45 rfl (lv_at hl 1 rfl) ?_
  refine va_get (D := (dC, dI)) (ci := 3) (v := .ref (gm 15)) (C := RX4) (T := TX4) (N := 23) hx hb hts iX4 hown hK hP 0 rfl rfl 22 (by decide) (hts _ (xm m550)) (fun _ h9 => h9) rfl dX4_setLum_46 ?_
  have hPc := hP.sub (ws' := (w_a3 (gm 15) cA (um6 15))) [15] rfl
  refine vp_callSi (va_Run.run (va_runS (As := [.ref (gm 15)]) (rest := []) ⟨hx, hb, hml, hown, hts⟩ (c_X4_least l dC dI cA (gm 15) (um6 15) _ hw) (gcS 1 hts m680 m678 m679 m24 rfl rfl (by decide +kernel) ⟨Nat.le_of_ble_eq_true rfl, Nat.le_of_ble_eq_true rfl⟩) ⟨xbl1, fun U hU hW => ⟨rfl, by rw [hU]; exact hPc, va_K.moved hW.alike hK⟩⟩ rfl rfl hl.1 rfl (lv_room (Nat.le_of_ble_eq_true rfl)) dX4_setLum_49 ⟨Nat.le_of_ble_eq_true rfl, Nat.le_of_ble_eq_true rfl⟩)) (fun r8 hw => ?_)
  refine lv_istore (lv' := [(4, .int r8), (3, .int r7), (0, .ref (gm 0))]) hx hb dX4_setLum_52 hl (by decide) rfl (fun ls hl => ?_)
  refine lv_aload_n hx hb dX4_setLum_54 rfl (lv_at hl 2 rfl) ?_
  refine va_get (D := (dC, dI)) (ci := 3) (v := .ref (gm 15)) (C := RX4) (T := TX4) (N := 23) hx hb hts iX4 hown hK hP 0 rfl rfl 22 (by decide) (hts _ (xm m550)) (fun _ h9 => h9) rfl dX4_setLum_55 ?_
  have hPc := hP.sub (ws' := (w_a3 (gm 15) cA (um6 15))) [15] rfl
  refine vp_callSi (va_Run.run (va_runS (As := [.ref (gm 15)]) (rest := []) ⟨hx, hb, hml, hown, hts⟩ (c_X4_greatest l dC dI cA (gm 15) (um6 15) _ hw) (gcS 1 hts m677 m675 m676 m24 rfl rfl (by decide +kernel) ⟨Nat.le_of_ble_eq_true rfl, Nat.le_of_ble_eq_true rfl⟩) ⟨xbl1, fun U hU hW => ⟨rfl, by rw [hU]; exact hPc, va_K.moved hW.alike hK⟩⟩ rfl rfl hl.1 rfl (lv_room (Nat.le_of_ble_eq_true rfl)) dX4_setLum_58 ⟨Nat.le_of_ble_eq_true rfl, Nat.le_of_ble_eq_true rfl⟩)) (fun r9 hw => ?_)
  refine lv_istore (lv' := [(5, .int r9), (4, .int r8), (3, .int r7), (0, .ref (gm 0))]) hx hb dX4_setLum_61 hl (by decide) rfl (fun ls hl => ?_)
  refine lv_iconst (v := 0) hx hb dX4_setLum_63 (by decide) ?_
  refine lv_istore (lv' := [(6, .int 0), (5, .int r9), (4, .int r8), (3, .int r7), (0, .ref (gm 0))]) hx hb dX4_setLum_64 hl (by decide) rfl (fun ls hl => ?_)
  obtain ⟨N66, hw⟩ := hw
  refine L66 _ _ _ _ (fun um15 hw H locs ls hP hD hS hl => ?_) N66 _ _ hw _ _ _ hP hD hS (lv_sub hl [4, 3, 2, 1, 0] rfl)
  exact J110 _ _ _ hw _ _ _ hP hD hS (lv_sub hl [0, 1, 2] rfl)
abbrev wX4_copy : List Cond := Cond.code yX4_copy cX4_copy 3 none :: gG
def wp_X4_copyT_2 (KX : (Nat → Nat → Int32) → Prop) : Nat → (Nat → Nat → Int32) → Int32 → Prop
  | 0, _, _ => False
  | N2 + 1, um, x2 =>
    ((3 ≤ x2 → KX um) ∧
  (¬ 3 ≤ x2 → (vp_in x2 3 ∧ (vp_in x2 3 ∧ ∀ um1 : Nat → Nat → Int32, um1 = st um 15 x2.toNatClampNeg (um 12 x2.toNatClampNeg) → ∀ v2 : Int32, v2 = x2 + 1 → wp_X4_copyT_2 KX N2 um1 v2))))
def wp_X4_copyT (um : Nat → Nat → Int32) (P : (Nat → Nat → Int32) → Prop) : Prop :=
  (∃ N2, wp_X4_copyT_2 (fun (um4 : Nat → Nat → Int32) => P um4) N2 um 0)
abbrev rm_X4_copyT : Room := { frames := 0, cells := 0, slots := 0, locals := 0 }
set_option maxHeartbeats 4000000 in
set_option maxRecDepth 100000 in
theorem c_X4_copyT (l : Launch) (dC : Nat → ClassId) (dI : Nat → Nat → Nat) (cA : Nat → ClassId) (gm : Nat → Nat) (sz : Nat) (um : Nat → Nat → Int32) (P : (Nat → Nat → Int32) → Prop) (hw : wp_X4_copyT um P) : Met l yX4_copy wX4_copy rm_X4_copyT (xP2 dC dI cA (w_md gm cA um) sz [.ref (gm 0), .ref (gm 12)]) (va_Qv (fun (u : (Nat → Nat → Int32)) => P u) (xB dC dI cA (fun u : (Nat → Nat → Int32) => w_md gm cA u) (va_A (w_md gm cA um) sz)) (va_A (w_md gm cA um) sz)) 0 0 (va_A (w_md gm cA um) sz) := by
  refine Met.ofW (cc := cX4_copy) (maxL := 3) (ret := none) (by decide) rfl ?_
  intro p e s m args below meth c s₁ B hml hv
  obtain ⟨hargs, hsz, hP, hK, hD0⟩ := hv
  have hx := B.exec
  have hb := B.bytes
  have hr := B.returns
  have hts := atoms_spec (ws := wX4_copy) B.pre
  have hown : s.vm.findClass RX4 = some m.cls := findClass_of_methodNamed B.named
  have hlocks := B.notSynchronized
  subst hsz
  have hD := hD0.self (sz := s.heap.size)
  generalize hAe : va_A (w_md gm cA um) s.heap.size = A at hD ⊢
  have hA : ∀ q : Nat, s.heap.size ≤ q → A q := fun q h => by rw [← hAe]; exact Or.inr h
  have hS : va_S A s.heap s.heap [] := va_S.rf
  clear hAe hD0
  have L2 : ∀ (KX : (Nat → Nat → Int32) → Prop), (∀ (um : Nat → Nat → Int32), KX um → ∀ (H : Heap) (locs : List Loc) (ls : Array Slot), va_P (dC, dI) vwCl (w_md gm cA um) H → va_D A (w_md gm cA um) → va_S A s.heap H locs → lv_has ls 3 [] → W p l e (headSpec wX4_copy rm_X4_copyT).room s m args below meth c H locs 0 0 (MQ below (va_Qv (fun (u : (Nat → Nat → Int32)) => P u) (xB dC dI cA (fun u : (Nat → Nat → Int32) => w_md gm cA u) A) A) args s 0 0 A) (F0 m 22 ls [])) → ∀ (N : Nat) (um : Nat → Nat → Int32) (x2 : Int32), wp_X4_copyT_2 KX N um x2 → ∀ (H : Heap) (locs : List Loc) (ls : Array Slot), va_P (dC, dI) vwCl (w_md gm cA um) H → va_D A (w_md gm cA um) → va_S A s.heap H locs → lv_has ls 3 [(0, .ref (gm 0)), (1, .ref (gm 12)), (2, .int x2)] → W p l e (headSpec wX4_copy rm_X4_copyT).room s m args below meth c H locs 0 0 (MQ below (va_Qv (fun (u : (Nat → Nat → Int32)) => P u) (xB dC dI cA (fun u : (Nat → Nat → Int32) => w_md gm cA u) A) A) args s 0 0 A) (F0 m 2 ls []) := by
    intro KX hx2 N2
    induction N2 with
    | zero =>
      intro um x2 hw
      exact False.elim hw
    | succ N2 hk =>
      intro um x2 hw H locs ls hP hD hS hl
      rw [wp_X4_copyT_2] at hw
      refine lv_iload_n hx hb dX4_copy_2 rfl (lv_at hl 2 rfl) ?_
      refine lv_iconst (v := 3) hx hb dX4_copy_3 (by decide) ?_
      refine lv_icmp_ge (tgt := 22) hx hb dX4_copy_4 (by decide) (fun c3 => ?_) (fun c3 => ?_)
      · replace hw := And.left hw c3
        exact hx2 _ hw _ _ _ hP hD hS (lv_sub hl [] rfl)
      · replace hw := And.right hw c3
        refine lv_aload_n hx hb dX4_copy_7 rfl (lv_at hl 0 rfl) ?_
        refine va_get (D := (dC, dI)) (ci := 3) (v := .ref (gm 15)) (C := RX4) (T := TX4) (N := 23) hx hb hts iX4 hown hK hP 0 rfl rfl 22 (by decide) (hts _ (xm m550)) (fun _ h9 => h9) rfl dX4_copy_8 ?_
        refine lv_iload_n hx hb dX4_copy_11 rfl (lv_at hl 2 rfl) ?_
        refine lv_aload_n hx hb dX4_copy_12 rfl (lv_at hl 1 rfl) ?_
        refine lv_iload_n hx hb dX4_copy_13 rfl (lv_at hl 2 rfl) ?_
        refine va_iald hx hb hK hP 12 0 rfl rfl (And.left hw) dX4_copy_14 ?_
        replace hw := And.right hw
        obtain ⟨um1, e_um1⟩ : ∃ z, z = st um 15 x2.toNatClampNeg (um 12 x2.toNatClampNeg) := ⟨_, rfl⟩
        refine va_iast hx hb hK hP hD hS 15 0 rfl rfl (And.left hw) dX4_copy_15 (fun H locs hP hD hS => ?_)
        replace hw := And.right hw
        replace hw := hw um1 e_um1
        have hP : va_P (dC, dI) vwCl (w_md gm cA um1) H := by rw [e_um1]; exact hP
        have hD : va_D A (w_md gm cA um1) := by rw [e_um1]; exact hD
        obtain ⟨v2, e_v2⟩ : ∃ y : Int32, y = x2 + 1 := ⟨_, rfl⟩
        replace hw := hw v2 e_v2
        refine lv_iinc (v := v2) (lv' := [(2, .int v2), (0, .ref (gm 0)), (1, .ref (gm 12))]) hx hb dX4_copy_16 hl (k := 2) rfl (by rw [e_v2]; rfl) (by decide) rfl (fun ls hl => ?_)
        refine lv_goto (tgt := 2) hx hb dX4_copy_19 (by decide) ?_
        exact hk _ _ hw _ _ _ hP hD hS (lv_sub hl [1, 2, 0] rfl)
  have hl := lv_entry ([.ref (gm 0), .ref (gm 12)]) (n := 3) (Nat.le_of_ble_eq_true rfl)
  rw [show entryFrame m args 3 = entryFrame m (([.ref (gm 0), .ref (gm 12)] : List Value).toArray) 3 from by rw [hargs], lg_entry_eq]
  generalize (lg_sl ([.ref (gm 0), .ref (gm 12)]) ++ List.replicate (3 - (lg_sl ([.ref (gm 0), .ref (gm 12)])).length) Slot.unset).toArray = ls at hl ⊢
  have hl : lv_has ls 3 [(0, .ref (gm 0)), (1, .ref (gm 12))] := hl
  have hP : va_P (dC, dI) vwCl (w_md gm cA um) s.heap := hP
  refine lv_iconst (v := 0) hx hb dX4_copy_0 (by decide) ?_
  refine lv_istore_n (lv' := [(2, .int 0), (0, .ref (gm 0)), (1, .ref (gm 12))]) hx hb dX4_copy_1 rfl hl (by decide) rfl (fun ls hl => ?_)
  obtain ⟨N2, hw⟩ := hw
  refine L2 _ (fun um4 hw H locs ls hP hD hS hl => ?_) N2 _ _ hw _ _ _ hP hD hS (lv_sub hl [1, 2, 0] rfl)
  exact W.vret hx hb hr (fun t ht hW => ⟨⟨um4, rfl, hw, by rw [ht]; exact hP, va_K.moved hW.alike hK, hD⟩, hS.F ht⟩) hS.2.2 dX4_copy_22
def wp_X4_copyB_2 (KX : (Nat → Nat → Int32) → Prop) : Nat → (Nat → Nat → Int32) → Int32 → Prop
  | 0, _, _ => False
  | N2 + 1, um, x2 =>
    ((3 ≤ x2 → KX um) ∧
  (¬ 3 ≤ x2 → (vp_in x2 3 ∧ (vp_in x2 3 ∧ ∀ um1 : Nat → Nat → Int32, um1 = st um 15 x2.toNatClampNeg (um 13 x2.toNatClampNeg) → ∀ v2 : Int32, v2 = x2 + 1 → wp_X4_copyB_2 KX N2 um1 v2))))
def wp_X4_copyB (um : Nat → Nat → Int32) (P : (Nat → Nat → Int32) → Prop) : Prop :=
  (∃ N2, wp_X4_copyB_2 (fun (um4 : Nat → Nat → Int32) => P um4) N2 um 0)
abbrev rm_X4_copyB : Room := { frames := 0, cells := 0, slots := 0, locals := 0 }
set_option maxHeartbeats 4000000 in
set_option maxRecDepth 100000 in
theorem c_X4_copyB (l : Launch) (dC : Nat → ClassId) (dI : Nat → Nat → Nat) (cA : Nat → ClassId) (gm : Nat → Nat) (sz : Nat) (um : Nat → Nat → Int32) (P : (Nat → Nat → Int32) → Prop) (hw : wp_X4_copyB um P) : Met l yX4_copy wX4_copy rm_X4_copyB (xP2 dC dI cA (w_md gm cA um) sz [.ref (gm 0), .ref (gm 13)]) (va_Qv (fun (u : (Nat → Nat → Int32)) => P u) (xB dC dI cA (fun u : (Nat → Nat → Int32) => w_md gm cA u) (va_A (w_md gm cA um) sz)) (va_A (w_md gm cA um) sz)) 0 0 (va_A (w_md gm cA um) sz) := by
  refine Met.ofW (cc := cX4_copy) (maxL := 3) (ret := none) (by decide) rfl ?_
  intro p e s m args below meth c s₁ B hml hv
  obtain ⟨hargs, hsz, hP, hK, hD0⟩ := hv
  have hx := B.exec
  have hb := B.bytes
  have hr := B.returns
  have hts := atoms_spec (ws := wX4_copy) B.pre
  have hown : s.vm.findClass RX4 = some m.cls := findClass_of_methodNamed B.named
  have hlocks := B.notSynchronized
  subst hsz
  have hD := hD0.self (sz := s.heap.size)
  generalize hAe : va_A (w_md gm cA um) s.heap.size = A at hD ⊢
  have hA : ∀ q : Nat, s.heap.size ≤ q → A q := fun q h => by rw [← hAe]; exact Or.inr h
  have hS : va_S A s.heap s.heap [] := va_S.rf
  clear hAe hD0
  have L2 : ∀ (KX : (Nat → Nat → Int32) → Prop), (∀ (um : Nat → Nat → Int32), KX um → ∀ (H : Heap) (locs : List Loc) (ls : Array Slot), va_P (dC, dI) vwCl (w_md gm cA um) H → va_D A (w_md gm cA um) → va_S A s.heap H locs → lv_has ls 3 [] → W p l e (headSpec wX4_copy rm_X4_copyB).room s m args below meth c H locs 0 0 (MQ below (va_Qv (fun (u : (Nat → Nat → Int32)) => P u) (xB dC dI cA (fun u : (Nat → Nat → Int32) => w_md gm cA u) A) A) args s 0 0 A) (F0 m 22 ls [])) → ∀ (N : Nat) (um : Nat → Nat → Int32) (x2 : Int32), wp_X4_copyB_2 KX N um x2 → ∀ (H : Heap) (locs : List Loc) (ls : Array Slot), va_P (dC, dI) vwCl (w_md gm cA um) H → va_D A (w_md gm cA um) → va_S A s.heap H locs → lv_has ls 3 [(0, .ref (gm 0)), (1, .ref (gm 13)), (2, .int x2)] → W p l e (headSpec wX4_copy rm_X4_copyB).room s m args below meth c H locs 0 0 (MQ below (va_Qv (fun (u : (Nat → Nat → Int32)) => P u) (xB dC dI cA (fun u : (Nat → Nat → Int32) => w_md gm cA u) A) A) args s 0 0 A) (F0 m 2 ls []) := by
    intro KX hx2 N2
    induction N2 with
    | zero =>
      intro um x2 hw
      exact False.elim hw
    | succ N2 hk =>
      intro um x2 hw H locs ls hP hD hS hl
      rw [wp_X4_copyB_2] at hw
      refine lv_iload_n hx hb dX4_copy_2 rfl (lv_at hl 2 rfl) ?_
      refine lv_iconst (v := 3) hx hb dX4_copy_3 (by decide) ?_
      refine lv_icmp_ge (tgt := 22) hx hb dX4_copy_4 (by decide) (fun c3 => ?_) (fun c3 => ?_)
      · replace hw := And.left hw c3
        exact hx2 _ hw _ _ _ hP hD hS (lv_sub hl [] rfl)
      · replace hw := And.right hw c3
        refine lv_aload_n hx hb dX4_copy_7 rfl (lv_at hl 0 rfl) ?_
        refine va_get (D := (dC, dI)) (ci := 3) (v := .ref (gm 15)) (C := RX4) (T := TX4) (N := 23) hx hb hts iX4 hown hK hP 0 rfl rfl 22 (by decide) (hts _ (xm m550)) (fun _ h9 => h9) rfl dX4_copy_8 ?_
        refine lv_iload_n hx hb dX4_copy_11 rfl (lv_at hl 2 rfl) ?_
        refine lv_aload_n hx hb dX4_copy_12 rfl (lv_at hl 1 rfl) ?_
        refine lv_iload_n hx hb dX4_copy_13 rfl (lv_at hl 2 rfl) ?_
        refine va_iald hx hb hK hP 13 0 rfl rfl (And.left hw) dX4_copy_14 ?_
        replace hw := And.right hw
        obtain ⟨um1, e_um1⟩ : ∃ z, z = st um 15 x2.toNatClampNeg (um 13 x2.toNatClampNeg) := ⟨_, rfl⟩
        refine va_iast hx hb hK hP hD hS 15 0 rfl rfl (And.left hw) dX4_copy_15 (fun H locs hP hD hS => ?_)
        replace hw := And.right hw
        replace hw := hw um1 e_um1
        have hP : va_P (dC, dI) vwCl (w_md gm cA um1) H := by rw [e_um1]; exact hP
        have hD : va_D A (w_md gm cA um1) := by rw [e_um1]; exact hD
        obtain ⟨v2, e_v2⟩ : ∃ y : Int32, y = x2 + 1 := ⟨_, rfl⟩
        replace hw := hw v2 e_v2
        refine lv_iinc (v := v2) (lv' := [(2, .int v2), (0, .ref (gm 0)), (1, .ref (gm 13))]) hx hb dX4_copy_16 hl (k := 2) rfl (by rw [e_v2]; rfl) (by decide) rfl (fun ls hl => ?_)
        refine lv_goto (tgt := 2) hx hb dX4_copy_19 (by decide) ?_
        exact hk _ _ hw _ _ _ hP hD hS (lv_sub hl [1, 2, 0] rfl)
  have hl := lv_entry ([.ref (gm 0), .ref (gm 13)]) (n := 3) (Nat.le_of_ble_eq_true rfl)
  rw [show entryFrame m args 3 = entryFrame m (([.ref (gm 0), .ref (gm 13)] : List Value).toArray) 3 from by rw [hargs], lg_entry_eq]
  generalize (lg_sl ([.ref (gm 0), .ref (gm 13)]) ++ List.replicate (3 - (lg_sl ([.ref (gm 0), .ref (gm 13)])).length) Slot.unset).toArray = ls at hl ⊢
  have hl : lv_has ls 3 [(0, .ref (gm 0)), (1, .ref (gm 13))] := hl
  have hP : va_P (dC, dI) vwCl (w_md gm cA um) s.heap := hP
  refine lv_iconst (v := 0) hx hb dX4_copy_0 (by decide) ?_
  refine lv_istore_n (lv' := [(2, .int 0), (0, .ref (gm 0)), (1, .ref (gm 13))]) hx hb dX4_copy_1 rfl hl (by decide) rfl (fun ls hl => ?_)
  obtain ⟨N2, hw⟩ := hw
  refine L2 _ (fun um4 hw H locs ls hP hD hS hl => ?_) N2 _ _ hw _ _ _ hP hD hS (lv_sub hl [1, 2, 0] rfl)
  exact W.vret hx hb hr (fun t ht hW => ⟨⟨um4, rfl, hw, by rw [ht]; exact hP, va_K.moved hW.alike hK, hD⟩, hS.F ht⟩) hS.2.2 dX4_copy_22
abbrev wX4_mix : List Cond := Cond.code yX4_mix cX4_mix 3 none :: gG
def wp_X4_mix_152 (KX : (Nat → Nat → Int32) → Prop) : Nat → (Nat → Nat → Int32) → Int32 → Prop
  | 0, _, _ => False
  | N152 + 1, um, x2 =>
    ((3 ≤ x2 → KX um) ∧
  (¬ 3 ≤ x2 → (vp_in x2 3 ∧ (vp_in x2 3 ∧ ∀ um6 : Nat → Nat → Int32, um6 = st um 14 x2.toNatClampNeg (um 15 x2.toNatClampNeg) → ∀ v7 : Int32, v7 = x2 + 1 → wp_X4_mix_152 KX N152 um6 v7))))
def wp_X4_mix_147 (P : (Nat → Nat → Int32) → Prop) (um : Nat → Nat → Int32) (s0 : Int32) : Prop :=
  wp_X4_setLum um s0 (fun (um5 : Nat → Nat → Int32) => (∃ N152, wp_X4_mix_152 (fun (um9 : Nat → Nat → Int32) => P um9) N152 um5 0))
def wp_X4_mix_123 (P : (Nat → Nat → Int32) → Prop) (um : Nat → Nat → Int32) (x1 : Int32) : Prop :=
  ((¬ x1 = 15 → wp_X4_lum (um 13) (fun r3 => wp_X4_mix_147 P um r3)) ∧
  (x1 = 15 → wp_X4_lum (um 12) (fun r10 => wp_X4_mix_147 P um r10)))
def wp_X4_mix_8 (KX : (Nat → Nat → Int32) → Prop) (x1 : Int32) : Nat → (Nat → Nat → Int32) → Int32 → Prop
  | 0, _, _ => False
  | N8 + 1, um, x2 =>
    ((3 ≤ x2 → KX um) ∧
  (¬ 3 ≤ x2 → (vp_in x2 3 ∧ (vp_in x2 3 ∧ wp_X4_ofBytes x1 (um 13 x2.toNatClampNeg) (um 12 x2.toNatClampNeg) (fun r27 => (vp_in x2 3 ∧ ∀ um28 : Nat → Nat → Int32, um28 = st um 14 x2.toNatClampNeg r27 → ∀ v29 : Int32, v29 = x2 + 1 → wp_X4_mix_8 KX x1 N8 um28 v29))))))
def wp_X4_mix (um : Nat → Nat → Int32) (p0 : Int32) (P : (Nat → Nat → Int32) → Prop) : Prop :=
  ((12 ≤ p0 → ((¬ p0 = 12 → ((¬ p0 = 13 → ((¬ p0 = 14 → wp_X4_copyB um (fun (um2 : Nat → Nat → Int32) => wp_X4_mix_123 P um2 p0)) ∧
  (p0 = 14 → wp_X4_copyT um (fun (um13 : Nat → Nat → Int32) => wp_X4_mix_123 P um13 p0)))) ∧
  (p0 = 13 → wp_X4_copyB um (fun (um16 : Nat → Nat → Int32) => wp_X4_sat (um16 12) (fun r17 => wp_X4_setSat um16 r17 (fun (um19 : Nat → Nat → Int32) => wp_X4_mix_123 P um19 p0)))))) ∧
  (p0 = 12 → wp_X4_copyT um (fun (um22 : Nat → Nat → Int32) => wp_X4_sat (um22 13) (fun r23 => wp_X4_setSat um22 r23 (fun (um25 : Nat → Nat → Int32) => wp_X4_mix_123 P um25 p0)))))) ∧
  (¬ 12 ≤ p0 → (∃ N8, wp_X4_mix_8 (fun (um31 : Nat → Nat → Int32) => P um31) p0 N8 um 0)))
abbrev rm_X4_mix : Room := { frames := 3, cells := 0, slots := 0, locals := 68 }
set_option maxHeartbeats 4000000 in
set_option maxRecDepth 100000 in
theorem c_X4_mix (l : Launch) (dC : Nat → ClassId) (dI : Nat → Nat → Nat) (cA : Nat → ClassId) (gm : Nat → Nat) (sz : Nat) (um : Nat → Nat → Int32) (p0 : Int32) (P : (Nat → Nat → Int32) → Prop) (hw : wp_X4_mix um p0 P) : Met l yX4_mix wX4_mix rm_X4_mix (xP2 dC dI cA (w_md gm cA um) sz [.ref (gm 0), .int p0]) (va_Qv (fun (u : (Nat → Nat → Int32)) => P u) (xB dC dI cA (fun u : (Nat → Nat → Int32) => w_md gm cA u) (va_A (w_md gm cA um) sz)) (va_A (w_md gm cA um) sz)) 0 0 (va_A (w_md gm cA um) sz) := by
  refine Met.ofW (cc := cX4_mix) (maxL := 3) (ret := none) (by decide) rfl ?_
  intro p e s m args below meth c s₁ B hml hv
  obtain ⟨hargs, hsz, hP, hK, hD0⟩ := hv
  have hx := B.exec
  have hb := B.bytes
  have hr := B.returns
  have hts := atoms_spec (ws := wX4_mix) B.pre
  have hown : s.vm.findClass RX4 = some m.cls := findClass_of_methodNamed B.named
  have hlocks := B.notSynchronized
  subst hsz
  have hD := hD0.self (sz := s.heap.size)
  generalize hAe : va_A (w_md gm cA um) s.heap.size = A at hD ⊢
  have hA : ∀ q : Nat, s.heap.size ≤ q → A q := fun q h => by rw [← hAe]; exact Or.inr h
  have hS : va_S A s.heap s.heap [] := va_S.rf
  clear hAe hD0
  have L152 : ∀ (KX : (Nat → Nat → Int32) → Prop), (∀ (um : Nat → Nat → Int32), KX um → ∀ (H : Heap) (locs : List Loc) (ls : Array Slot), va_P (dC, dI) vwCl (w_md gm cA um) H → va_D A (w_md gm cA um) → va_S A s.heap H locs → lv_has ls 3 [] → W p l e (headSpec wX4_mix rm_X4_mix).room s m args below meth c H locs 0 0 (MQ below (va_Qv (fun (u : (Nat → Nat → Int32)) => P u) (xB dC dI cA (fun u : (Nat → Nat → Int32) => w_md gm cA u) A) A) args s 0 0 A) (F0 m 175 ls [])) → ∀ (N : Nat) (um : Nat → Nat → Int32) (x2 : Int32), wp_X4_mix_152 KX N um x2 → ∀ (H : Heap) (locs : List Loc) (ls : Array Slot), va_P (dC, dI) vwCl (w_md gm cA um) H → va_D A (w_md gm cA um) → va_S A s.heap H locs → lv_has ls 3 [(0, .ref (gm 0)), (2, .int x2)] → W p l e (headSpec wX4_mix rm_X4_mix).room s m args below meth c H locs 0 0 (MQ below (va_Qv (fun (u : (Nat → Nat → Int32)) => P u) (xB dC dI cA (fun u : (Nat → Nat → Int32) => w_md gm cA u) A) A) args s 0 0 A) (F0 m 152 ls []) := by
    intro KX hx2 N152
    induction N152 with
    | zero =>
      intro um x2 hw
      exact False.elim hw
    | succ N152 hk =>
      intro um x2 hw H locs ls hP hD hS hl
      rw [wp_X4_mix_152] at hw
      refine lv_iload_n hx hb dX4_mix_152 rfl (lv_at hl 1 rfl) ?_
      refine lv_iconst (v := 3) hx hb dX4_mix_153 (by decide) ?_
      refine lv_icmp_ge (tgt := 175) hx hb dX4_mix_154 (by decide) (fun c8 => ?_) (fun c8 => ?_)
      · replace hw := And.left hw c8
        exact hx2 _ hw _ _ _ hP hD hS (lv_sub hl [] rfl)
      · replace hw := And.right hw c8
        refine lv_aload_n hx hb dX4_mix_157 rfl (lv_at hl 0 rfl) ?_
        refine va_get (D := (dC, dI)) (ci := 3) (v := .ref (gm 14)) (C := RX4) (T := TX4) (N := 23) hx hb hts iX4 hown hK hP 0 rfl rfl 21 (by decide) (hts _ (xm m549)) (fun _ h9 => h9) rfl dX4_mix_158 ?_
        refine lv_iload_n hx hb dX4_mix_161 rfl (lv_at hl 1 rfl) ?_
        refine lv_aload_n hx hb dX4_mix_162 rfl (lv_at hl 0 rfl) ?_
        refine va_get (D := (dC, dI)) (ci := 3) (v := .ref (gm 15)) (C := RX4) (T := TX4) (N := 23) hx hb hts iX4 hown hK hP 0 rfl rfl 22 (by decide) (hts _ (xm m550)) (fun _ h9 => h9) rfl dX4_mix_163 ?_
        refine lv_iload_n hx hb dX4_mix_166 rfl (lv_at hl 1 rfl) ?_
        refine va_iald hx hb hK hP 15 0 rfl rfl (And.left hw) dX4_mix_167 ?_
        replace hw := And.right hw
        obtain ⟨um6, e_um6⟩ : ∃ z, z = st um 14 x2.toNatClampNeg (um 15 x2.toNatClampNeg) := ⟨_, rfl⟩
        refine va_iast hx hb hK hP hD hS 14 0 rfl rfl (And.left hw) dX4_mix_168 (fun H locs hP hD hS => ?_)
        replace hw := And.right hw
        replace hw := hw um6 e_um6
        have hP : va_P (dC, dI) vwCl (w_md gm cA um6) H := by rw [e_um6]; exact hP
        have hD : va_D A (w_md gm cA um6) := by rw [e_um6]; exact hD
        obtain ⟨v7, e_v7⟩ : ∃ y : Int32, y = x2 + 1 := ⟨_, rfl⟩
        replace hw := hw v7 e_v7
        refine lv_iinc (v := v7) (lv' := [(2, .int v7), (0, .ref (gm 0))]) hx hb dX4_mix_169 hl (k := 1) rfl (by rw [e_v7]; rfl) (by decide) rfl (fun ls hl => ?_)
        refine lv_goto (tgt := 152) hx hb dX4_mix_172 (by decide) ?_
        exact hk _ _ hw _ _ _ hP hD hS (lv_sub hl [1, 0] rfl)
  have J147 : ∀ (um : Nat → Nat → Int32) (s0 : Int32), wp_X4_mix_147 P um s0 → ∀ (H : Heap) (locs : List Loc) (ls : Array Slot), va_P (dC, dI) vwCl (w_md gm cA um) H → va_D A (w_md gm cA um) → va_S A s.heap H locs → lv_has ls 3 [(0, .ref (gm 0))] → W p l e (headSpec wX4_mix rm_X4_mix).room s m args below meth c H locs 0 0 (MQ below (va_Qv (fun (u : (Nat → Nat → Int32)) => P u) (xB dC dI cA (fun u : (Nat → Nat → Int32) => w_md gm cA u) A) A) args s 0 0 A) (F0 m 147 ls [.int s0, .ref (gm 0)]) := by
    intro  um s0 hw H locs ls hP hD hS hl
    have hPc : va_P (dC, dI) vwCl (w_md gm cA um) _ := hP
    have hDc := hD.sub (ws' := (w_md gm cA um)) [0, 1, 2, 3, 4, 5, 6, 7, 8, 9, 10, 11, 12, 13, 14, 15] (by decide) rfl
    have hFc := va_free (wc := (w_md gm cA um)) hD hS hA [0, 1, 2, 3, 4, 5, 6, 7, 8, 9, 10, 11, 12, 13, 14, 15] rfl
    refine va_callv (va_runV (As := [.int s0]) (rest := []) ⟨hx, hb, hml, hown, hts⟩ (c_X4_setLum l dC dI cA gm _ um s0 _ hw) (gcV 1 hts m694 m691 m693 m17 m24 rfl rfl (by decide +kernel) ⟨Nat.le_of_ble_eq_true rfl, Nat.le_of_ble_eq_true rfl⟩) ⟨xbl2, va_recv hK hPc (ci := 3) (q0 := 0) rfl rfl, fun U hU hW => ⟨rfl, by rw [hU], by rw [hU]; exact hPc, va_K.moved hW.alike hK, hDc.weaken (fun _ _ _ _ => trivial)⟩⟩ rfl rfl hl.1 rfl (lv_room (Nat.le_of_ble_eq_true rfl)) dX4_mix_147 ⟨Nat.le_of_ble_eq_true rfl, Nat.le_of_ble_eq_true rfl⟩) hS (fun q _ h => hFc q h) hFc (fun u t H1 locs ht hvm hw hB hz1 hk1 hS => ?_)
    obtain ⟨um5, e_u⟩ : ∃ z, z = u := ⟨_, rfl⟩
    subst e_u
    obtain ⟨hP1, hK1, hD1⟩ := hB
    rw [ht] at hP1
    have hP : va_P (dC, dI) vwCl (w_md gm cA um5) H1 := hP1
    have hD : va_D A (w_md gm cA um5) := hD1.weaken (fun k q hk h => hFc q.1 h)
    clear hP1 hD1 hK1 hk1 hz1 hFc hDc hPc ht
    generalize H1 = H at hP hS ⊢
    refine lv_iconst (v := 0) hx hb dX4_mix_150 (by decide) ?_
    refine lv_istore_n (lv' := [(2, .int 0), (0, .ref (gm 0))]) hx hb dX4_mix_151 rfl hl (by decide) rfl (fun ls hl => ?_)
    obtain ⟨N152, hw⟩ := hw
    refine L152 _ (fun um9 hw H locs ls hP hD hS hl => ?_) N152 _ _ hw _ _ _ hP hD hS (lv_sub hl [1, 0] rfl)
    exact W.vret hx hb hr (fun t ht hW => ⟨⟨um9, rfl, hw, by rw [ht]; exact hP, va_K.moved hW.alike hK, hD⟩, hS.F ht⟩) hS.2.2 dX4_mix_175
  have J123 : ∀ (um : Nat → Nat → Int32) (x1 : Int32), wp_X4_mix_123 P um x1 → ∀ (H : Heap) (locs : List Loc) (ls : Array Slot), va_P (dC, dI) vwCl (w_md gm cA um) H → va_D A (w_md gm cA um) → va_S A s.heap H locs → lv_has ls 3 [(0, .ref (gm 0)), (1, .int x1)] → W p l e (headSpec wX4_mix rm_X4_mix).room s m args below meth c H locs 0 0 (MQ below (va_Qv (fun (u : (Nat → Nat → Int32)) => P u) (xB dC dI cA (fun u : (Nat → Nat → Int32) => w_md gm cA u) A) A) args s 0 0 A) (F0 m 123 ls []) := by
    intro  um x1 hw H locs ls hP hD hS hl
    refine lv_aload_n hx hb dX4_mix_123 rfl (lv_at hl 0 rfl) ?_
    refine lv_iload_n hx hb dX4_mix_124 rfl (lv_at hl 1 rfl) ?_
    refine lv_bipush (v := 15) hx hb dX4_mix_125 (by decide) ?_
    refine lv_icmp_ne (tgt := 140) hx hb dX4_mix_127 (by decide) (fun c11 => ?_) (fun c11 => ?_)
    · replace hw := And.left hw c11
      refine lv_aload_n hx hb dX4_mix_140 rfl (lv_at hl 0 rfl) ?_
      refine va_get (D := (dC, dI)) (ci := 3) (v := .ref (gm 13)) (C := RX4) (T := TX4) (N := 23) hx hb hts iX4 hown hK hP 0 rfl rfl 20 (by decide) (hts _ (xm m548)) (fun _ h9 => h9) rfl dX4_mix_141 ?_
      have hPc := hP.sub (ws' := (w_a3 (gm 13) cA (um 13))) [13] rfl
      refine vp_callSi (va_Run.run (va_runS (As := [.ref (gm 13)]) (rest := [.ref (gm 0)]) ⟨hx, hb, hml, hown, hts⟩ (c_X4_lum l dC dI cA (gm 13) (um 13) _ hw) (gcS 1 hts m687 m685 m686 m24 rfl rfl (by decide +kernel) ⟨Nat.le_of_ble_eq_true rfl, Nat.le_of_ble_eq_true rfl⟩) ⟨xbl1, fun U hU hW => ⟨rfl, by rw [hU]; exact hPc, va_K.moved hW.alike hK⟩⟩ rfl rfl hl.1 rfl (lv_room (Nat.le_of_ble_eq_true rfl)) dX4_mix_144 ⟨Nat.le_of_ble_eq_true rfl, Nat.le_of_ble_eq_true rfl⟩)) (fun r3 hw => ?_)
      exact J147 _ _ hw _ _ _ hP hD hS (lv_sub hl [0] rfl)
    · replace hw := And.right hw c11
      refine lv_aload_n hx hb dX4_mix_130 rfl (lv_at hl 0 rfl) ?_
      refine va_get (D := (dC, dI)) (ci := 3) (v := .ref (gm 12)) (C := RX4) (T := TX4) (N := 23) hx hb hts iX4 hown hK hP 0 rfl rfl 19 (by decide) (hts _ (xm m547)) (fun _ h9 => h9) rfl dX4_mix_131 ?_
      have hPc := hP.sub (ws' := (w_a3 (gm 12) cA (um 12))) [12] rfl
      refine vp_callSi (va_Run.run (va_runS (As := [.ref (gm 12)]) (rest := [.ref (gm 0)]) ⟨hx, hb, hml, hown, hts⟩ (c_X4_lum l dC dI cA (gm 12) (um 12) _ hw) (gcS 1 hts m687 m685 m686 m24 rfl rfl (by decide +kernel) ⟨Nat.le_of_ble_eq_true rfl, Nat.le_of_ble_eq_true rfl⟩) ⟨xbl1, fun U hU hW => ⟨rfl, by rw [hU]; exact hPc, va_K.moved hW.alike hK⟩⟩ rfl rfl hl.1 rfl (lv_room (Nat.le_of_ble_eq_true rfl)) dX4_mix_134 ⟨Nat.le_of_ble_eq_true rfl, Nat.le_of_ble_eq_true rfl⟩)) (fun r10 hw => ?_)
      refine lv_goto (tgt := 147) hx hb dX4_mix_137 (by decide) ?_
      exact J147 _ _ hw _ _ _ hP hD hS (lv_sub hl [0] rfl)
  have L8 : ∀ (KX : (Nat → Nat → Int32) → Prop) (x1 : Int32), (∀ (um : Nat → Nat → Int32), KX um → ∀ (H : Heap) (locs : List Loc) (ls : Array Slot), va_P (dC, dI) vwCl (w_md gm cA um) H → va_D A (w_md gm cA um) → va_S A s.heap H locs → lv_has ls 3 [] → W p l e (headSpec wX4_mix rm_X4_mix).room s m args below meth c H locs 0 0 (MQ below (va_Qv (fun (u : (Nat → Nat → Int32)) => P u) (xB dC dI cA (fun u : (Nat → Nat → Int32) => w_md gm cA u) A) A) args s 0 0 A) (F0 m 41 ls [])) → ∀ (N : Nat) (um : Nat → Nat → Int32) (x2 : Int32), wp_X4_mix_8 KX x1 N um x2 → ∀ (H : Heap) (locs : List Loc) (ls : Array Slot), va_P (dC, dI) vwCl (w_md gm cA um) H → va_D A (w_md gm cA um) → va_S A s.heap H locs → lv_has ls 3 [(0, .ref (gm 0)), (1, .int x1), (2, .int x2)] → W p l e (headSpec wX4_mix rm_X4_mix).room s m args below meth c H locs 0 0 (MQ below (va_Qv (fun (u : (Nat → Nat → Int32)) => P u) (xB dC dI cA (fun u : (Nat → Nat → Int32) => w_md gm cA u) A) A) args s 0 0 A) (F0 m 8 ls []) := by
    intro KX x1 hx2 N8
    induction N8 with
    | zero =>
      intro um x2 hw
      exact False.elim hw
    | succ N8 hk =>
      intro um x2 hw H locs ls hP hD hS hl
      rw [wp_X4_mix_8] at hw
      refine lv_iload_n hx hb dX4_mix_8 rfl (lv_at hl 2 rfl) ?_
      refine lv_iconst (v := 3) hx hb dX4_mix_9 (by decide) ?_
      refine lv_icmp_ge (tgt := 41) hx hb dX4_mix_10 (by decide) (fun c30 => ?_) (fun c30 => ?_)
      · replace hw := And.left hw c30
        exact hx2 _ hw _ _ _ hP hD hS (lv_sub hl [] rfl)
      · replace hw := And.right hw c30
        refine lv_aload_n hx hb dX4_mix_13 rfl (lv_at hl 0 rfl) ?_
        refine va_get (D := (dC, dI)) (ci := 3) (v := .ref (gm 14)) (C := RX4) (T := TX4) (N := 23) hx hb hts iX4 hown hK hP 0 rfl rfl 21 (by decide) (hts _ (xm m549)) (fun _ h9 => h9) rfl dX4_mix_14 ?_
        refine lv_iload_n hx hb dX4_mix_17 rfl (lv_at hl 2 rfl) ?_
        refine lv_iload_n hx hb dX4_mix_18 rfl (lv_at hl 1 rfl) ?_
        refine lv_aload_n hx hb dX4_mix_19 rfl (lv_at hl 0 rfl) ?_
        refine va_get (D := (dC, dI)) (ci := 3) (v := .ref (gm 13)) (C := RX4) (T := TX4) (N := 23) hx hb hts iX4 hown hK hP 0 rfl rfl 20 (by decide) (hts _ (xm m548)) (fun _ h9 => h9) rfl dX4_mix_20 ?_
        refine lv_iload_n hx hb dX4_mix_23 rfl (lv_at hl 2 rfl) ?_
        refine va_iald hx hb hK hP 13 0 rfl rfl (And.left hw) dX4_mix_24 ?_
        replace hw := And.right hw
        refine lv_aload_n hx hb dX4_mix_25 rfl (lv_at hl 0 rfl) ?_
        refine va_get (D := (dC, dI)) (ci := 3) (v := .ref (gm 12)) (C := RX4) (T := TX4) (N := 23) hx hb hts iX4 hown hK hP 0 rfl rfl 19 (by decide) (hts _ (xm m547)) (fun _ h9 => h9) rfl dX4_mix_26 ?_
        refine lv_iload_n hx hb dX4_mix_29 rfl (lv_at hl 2 rfl) ?_
        refine va_iald hx hb hK hP 12 0 rfl rfl (And.left hw) dX4_mix_30 ?_
        replace hw := And.right hw
        refine vp_callSi (va_Run.run (va_runS (As := [.int x1, .int (um 13 x2.toNatClampNeg), .int (um 12 x2.toNatClampNeg)]) (rest := [.int x2, .ref (gm 14)]) ⟨hx, hb, hml, hown, hts⟩ (c_X4_ofBytes l x1 (um 13 x2.toNatClampNeg) (um 12 x2.toNatClampNeg) _ hw) (gcS 3 hts m655 m653 m654 m24 rfl rfl (by decide +kernel) ⟨Nat.le_of_ble_eq_true rfl, Nat.le_of_ble_eq_true rfl⟩) ⟨xbl0, fun U hU hW => ⟨rfl, trivial⟩⟩ rfl rfl hl.1 rfl (lv_room (Nat.le_of_ble_eq_true rfl)) dX4_mix_31 ⟨Nat.le_of_ble_eq_true rfl, Nat.le_of_ble_eq_true rfl⟩)) (fun r27 hw => ?_)
        obtain ⟨um28, e_um28⟩ : ∃ z, z = st um 14 x2.toNatClampNeg r27 := ⟨_, rfl⟩
        refine va_iast hx hb hK hP hD hS 14 0 rfl rfl (And.left hw) dX4_mix_34 (fun H locs hP hD hS => ?_)
        replace hw := And.right hw
        replace hw := hw um28 e_um28
        have hP : va_P (dC, dI) vwCl (w_md gm cA um28) H := by rw [e_um28]; exact hP
        have hD : va_D A (w_md gm cA um28) := by rw [e_um28]; exact hD
        obtain ⟨v29, e_v29⟩ : ∃ y : Int32, y = x2 + 1 := ⟨_, rfl⟩
        replace hw := hw v29 e_v29
        refine lv_iinc (v := v29) (lv' := [(2, .int v29), (0, .ref (gm 0)), (1, .int x1)]) hx hb dX4_mix_35 hl (k := 2) rfl (by rw [e_v29]; rfl) (by decide) rfl (fun ls hl => ?_)
        refine lv_goto (tgt := 8) hx hb dX4_mix_38 (by decide) ?_
        exact hk _ _ hw _ _ _ hP hD hS (lv_sub hl [1, 2, 0] rfl)
  have hl := lv_entry ([.ref (gm 0), .int p0]) (n := 3) (Nat.le_of_ble_eq_true rfl)
  rw [show entryFrame m args 3 = entryFrame m (([.ref (gm 0), .int p0] : List Value).toArray) 3 from by rw [hargs], lg_entry_eq]
  generalize (lg_sl ([.ref (gm 0), .int p0]) ++ List.replicate (3 - (lg_sl ([.ref (gm 0), .int p0])).length) Slot.unset).toArray = ls at hl ⊢
  have hl : lv_has ls 3 [(0, .ref (gm 0)), (1, .int p0)] := hl
  have hP : va_P (dC, dI) vwCl (w_md gm cA um) s.heap := hP
  refine lv_iload_n hx hb dX4_mix_0 rfl (lv_at hl 1 rfl) ?_
  refine lv_bipush (v := 12) hx hb dX4_mix_1 (by decide) ?_
  refine lv_icmp_ge (tgt := 42) hx hb dX4_mix_3 (by decide) (fun c32 => ?_) (fun c32 => ?_)
  · replace hw := And.left hw c32
    refine lv_iload_n hx hb dX4_mix_42 rfl (lv_at hl 1 rfl) ?_
    refine lv_bipush (v := 12) hx hb dX4_mix_43 (by decide) ?_
    refine lv_icmp_ne (tgt := 70) hx hb dX4_mix_45 (by decide) (fun c26 => ?_) (fun c26 => ?_)
    · replace hw := And.left hw c26
      refine lv_iload_n hx hb dX4_mix_70 rfl (lv_at hl 1 rfl) ?_
      refine lv_bipush (v := 13) hx hb dX4_mix_71 (by decide) ?_
      refine lv_icmp_ne (tgt := 98) hx hb dX4_mix_73 (by decide) (fun c20 => ?_) (fun c20 => ?_)
      · replace hw := And.left hw c20
        refine lv_iload_n hx hb dX4_mix_98 rfl (lv_at hl 1 rfl) ?_
        refine lv_bipush (v := 14) hx hb dX4_mix_99 (by decide) ?_
        refine lv_icmp_ne (tgt := 115) hx hb dX4_mix_101 (by decide) (fun c14 => ?_) (fun c14 => ?_)
        · replace hw := And.left hw c14
          refine lv_aload_n hx hb dX4_mix_115 rfl (lv_at hl 0 rfl) ?_
          refine lv_aload_n hx hb dX4_mix_116 rfl (lv_at hl 0 rfl) ?_
          refine va_get (D := (dC, dI)) (ci := 3) (v := .ref (gm 13)) (C := RX4) (T := TX4) (N := 23) hx hb hts iX4 hown hK hP 0 rfl rfl 20 (by decide) (hts _ (xm m548)) (fun _ h9 => h9) rfl dX4_mix_117 ?_
          have hPc : va_P (dC, dI) vwCl (w_md gm cA um) _ := hP
          have hDc := hD.sub (ws' := (w_md gm cA um)) [0, 1, 2, 3, 4, 5, 6, 7, 8, 9, 10, 11, 12, 13, 14, 15] (by decide) rfl
          have hFc := va_free (wc := (w_md gm cA um)) hD hS hA [0, 1, 2, 3, 4, 5, 6, 7, 8, 9, 10, 11, 12, 13, 14, 15] rfl
          refine va_callv (va_runV (As := [.ref (gm 13)]) (rest := []) ⟨hx, hb, hml, hown, hts⟩ (c_X4_copyB l dC dI cA gm _ um _ hw) (gcV 1 hts m671 m668 m670 m15 m24 rfl rfl (by decide +kernel) ⟨Nat.le_of_ble_eq_true rfl, Nat.le_of_ble_eq_true rfl⟩) ⟨xbl2, va_recv hK hPc (ci := 3) (q0 := 0) rfl rfl, fun U hU hW => ⟨rfl, by rw [hU], by rw [hU]; exact hPc, va_K.moved hW.alike hK, hDc.weaken (fun _ _ _ _ => trivial)⟩⟩ rfl rfl hl.1 rfl (lv_room (Nat.le_of_ble_eq_true rfl)) dX4_mix_120 ⟨Nat.le_of_ble_eq_true rfl, Nat.le_of_ble_eq_true rfl⟩) hS (fun q _ h => hFc q h) hFc (fun u t H1 locs ht hvm hw hB hz1 hk1 hS => ?_)
          obtain ⟨um2, e_u⟩ : ∃ z, z = u := ⟨_, rfl⟩
          subst e_u
          obtain ⟨hP1, hK1, hD1⟩ := hB
          rw [ht] at hP1
          have hP : va_P (dC, dI) vwCl (w_md gm cA um2) H1 := hP1
          have hD : va_D A (w_md gm cA um2) := hD1.weaken (fun k q hk h => hFc q.1 h)
          clear hP1 hD1 hK1 hk1 hz1 hFc hDc hPc ht
          generalize H1 = H at hP hS ⊢
          exact J123 _ _ hw _ _ _ hP hD hS (lv_sub hl [0, 1] rfl)
        · replace hw := And.right hw c14
          refine lv_aload_n hx hb dX4_mix_104 rfl (lv_at hl 0 rfl) ?_
          refine lv_aload_n hx hb dX4_mix_105 rfl (lv_at hl 0 rfl) ?_
          refine va_get (D := (dC, dI)) (ci := 3) (v := .ref (gm 12)) (C := RX4) (T := TX4) (N := 23) hx hb hts iX4 hown hK hP 0 rfl rfl 19 (by decide) (hts _ (xm m547)) (fun _ h9 => h9) rfl dX4_mix_106 ?_
          have hPc : va_P (dC, dI) vwCl (w_md gm cA um) _ := hP
          have hDc := hD.sub (ws' := (w_md gm cA um)) [0, 1, 2, 3, 4, 5, 6, 7, 8, 9, 10, 11, 12, 13, 14, 15] (by decide) rfl
          have hFc := va_free (wc := (w_md gm cA um)) hD hS hA [0, 1, 2, 3, 4, 5, 6, 7, 8, 9, 10, 11, 12, 13, 14, 15] rfl
          refine va_callv (va_runV (As := [.ref (gm 12)]) (rest := []) ⟨hx, hb, hml, hown, hts⟩ (c_X4_copyT l dC dI cA gm _ um _ hw) (gcV 1 hts m671 m668 m670 m15 m24 rfl rfl (by decide +kernel) ⟨Nat.le_of_ble_eq_true rfl, Nat.le_of_ble_eq_true rfl⟩) ⟨xbl2, va_recv hK hPc (ci := 3) (q0 := 0) rfl rfl, fun U hU hW => ⟨rfl, by rw [hU], by rw [hU]; exact hPc, va_K.moved hW.alike hK, hDc.weaken (fun _ _ _ _ => trivial)⟩⟩ rfl rfl hl.1 rfl (lv_room (Nat.le_of_ble_eq_true rfl)) dX4_mix_109 ⟨Nat.le_of_ble_eq_true rfl, Nat.le_of_ble_eq_true rfl⟩) hS (fun q _ h => hFc q h) hFc (fun u t H1 locs ht hvm hw hB hz1 hk1 hS => ?_)
          obtain ⟨um13, e_u⟩ : ∃ z, z = u := ⟨_, rfl⟩
          subst e_u
          obtain ⟨hP1, hK1, hD1⟩ := hB
          rw [ht] at hP1
          have hP : va_P (dC, dI) vwCl (w_md gm cA um13) H1 := hP1
          have hD : va_D A (w_md gm cA um13) := hD1.weaken (fun k q hk h => hFc q.1 h)
          clear hP1 hD1 hK1 hk1 hz1 hFc hDc hPc ht
          generalize H1 = H at hP hS ⊢
          refine lv_goto (tgt := 123) hx hb dX4_mix_112 (by decide) ?_
          exact J123 _ _ hw _ _ _ hP hD hS (lv_sub hl [0, 1] rfl)
      · replace hw := And.right hw c20
        refine lv_aload_n hx hb dX4_mix_76 rfl (lv_at hl 0 rfl) ?_
        refine lv_aload_n hx hb dX4_mix_77 rfl (lv_at hl 0 rfl) ?_
        refine va_get (D := (dC, dI)) (ci := 3) (v := .ref (gm 13)) (C := RX4) (T := TX4) (N := 23) hx hb hts iX4 hown hK hP 0 rfl rfl 20 (by decide) (hts _ (xm m548)) (fun _ h9 => h9) rfl dX4_mix_78 ?_
        have hPc : va_P (dC, dI) vwCl (w_md gm cA um) _ := hP
        have hDc := hD.sub (ws' := (w_md gm cA um)) [0, 1, 2, 3, 4, 5, 6, 7, 8, 9, 10, 11, 12, 13, 14, 15] (by decide) rfl
        have hFc := va_free (wc := (w_md gm cA um)) hD hS hA [0, 1, 2, 3, 4, 5, 6, 7, 8, 9, 10, 11, 12, 13, 14, 15] rfl
        refine va_callv (va_runV (As := [.ref (gm 13)]) (rest := []) ⟨hx, hb, hml, hown, hts⟩ (c_X4_copyB l dC dI cA gm _ um _ hw) (gcV 1 hts m671 m668 m670 m15 m24 rfl rfl (by decide +kernel) ⟨Nat.le_of_ble_eq_true rfl, Nat.le_of_ble_eq_true rfl⟩) ⟨xbl2, va_recv hK hPc (ci := 3) (q0 := 0) rfl rfl, fun U hU hW => ⟨rfl, by rw [hU], by rw [hU]; exact hPc, va_K.moved hW.alike hK, hDc.weaken (fun _ _ _ _ => trivial)⟩⟩ rfl rfl hl.1 rfl (lv_room (Nat.le_of_ble_eq_true rfl)) dX4_mix_81 ⟨Nat.le_of_ble_eq_true rfl, Nat.le_of_ble_eq_true rfl⟩) hS (fun q _ h => hFc q h) hFc (fun u t H1 locs ht hvm hw hB hz1 hk1 hS => ?_)
        obtain ⟨um16, e_u⟩ : ∃ z, z = u := ⟨_, rfl⟩
        subst e_u
        obtain ⟨hP1, hK1, hD1⟩ := hB
        rw [ht] at hP1
        have hP : va_P (dC, dI) vwCl (w_md gm cA um16) H1 := hP1
        have hD : va_D A (w_md gm cA um16) := hD1.weaken (fun k q hk h => hFc q.1 h)
        clear hP1 hD1 hK1 hk1 hz1 hFc hDc hPc ht
        generalize H1 = H at hP hS ⊢
        refine lv_aload_n hx hb dX4_mix_84 rfl (lv_at hl 0 rfl) ?_
        refine lv_aload_n hx hb dX4_mix_85 rfl (lv_at hl 0 rfl) ?_
        refine va_get (D := (dC, dI)) (ci := 3) (v := .ref (gm 12)) (C := RX4) (T := TX4) (N := 23) hx hb hts iX4 hown hK hP 0 rfl rfl 19 (by decide) (hts _ (xm m547)) (fun _ h9 => h9) rfl dX4_mix_86 ?_
        have hPc := hP.sub (ws' := (w_a3 (gm 12) cA (um16 12))) [12] rfl
        refine vp_callSi (va_Run.run (va_runS (As := [.ref (gm 12)]) (rest := [.ref (gm 0)]) ⟨hx, hb, hml, hown, hts⟩ (c_X4_sat l dC dI cA (gm 12) (um16 12) _ hw) (gcS 1 hts m674 m672 m673 m24 rfl rfl (by decide +kernel) ⟨Nat.le_of_ble_eq_true rfl, Nat.le_of_ble_eq_true rfl⟩) ⟨xbl1, fun U hU hW => ⟨rfl, by rw [hU]; exact hPc, va_K.moved hW.alike hK⟩⟩ rfl rfl hl.1 rfl (lv_room (Nat.le_of_ble_eq_true rfl)) dX4_mix_89 ⟨Nat.le_of_ble_eq_true rfl, Nat.le_of_ble_eq_true rfl⟩)) (fun r17 hw => ?_)
        have hPc : va_P (dC, dI) vwCl (w_md gm cA um16) _ := hP
        have hDc := hD.sub (ws' := (w_md gm cA um16)) [0, 1, 2, 3, 4, 5, 6, 7, 8, 9, 10, 11, 12, 13, 14, 15] (by decide) rfl
        have hFc := va_free (wc := (w_md gm cA um16)) hD hS hA [0, 1, 2, 3, 4, 5, 6, 7, 8, 9, 10, 11, 12, 13, 14, 15] rfl
        refine va_callv (va_runV (As := [.int r17]) (rest := []) ⟨hx, hb, hml, hown, hts⟩ (c_X4_setSat l dC dI cA gm _ um16 r17 _ hw) (gcV 1 hts m684 m681 m683 m16 m24 rfl rfl (by decide +kernel) ⟨Nat.le_of_ble_eq_true rfl, Nat.le_of_ble_eq_true rfl⟩) ⟨xbl2, va_recv hK hPc (ci := 3) (q0 := 0) rfl rfl, fun U hU hW => ⟨rfl, by rw [hU], by rw [hU]; exact hPc, va_K.moved hW.alike hK, hDc.weaken (fun _ _ _ _ => trivial)⟩⟩ rfl rfl hl.1 rfl (lv_room (Nat.le_of_ble_eq_true rfl)) dX4_mix_92 ⟨Nat.le_of_ble_eq_true rfl, Nat.le_of_ble_eq_true rfl⟩) hS (fun q _ h => hFc q h) hFc (fun u t H1 locs ht hvm hw hB hz1 hk1 hS => ?_)
        obtain ⟨um19, e_u⟩ : ∃ z, z = u := ⟨_, rfl⟩
        subst e_u
        obtain ⟨hP1, hK1, hD1⟩ := hB
        rw [ht] at hP1
        have hP : va_P (dC, dI) vwCl (w_md gm cA um19) H1 := hP1
        have hD : va_D A (w_md gm cA um19) := hD1.weaken (fun k q hk h => hFc q.1 h)
        clear hP1 hD1 hK1 hk1 hz1 hFc hDc hPc ht
        generalize H1 = H at hP hS ⊢
        refine lv_goto (tgt := 123) hx hb dX4_mix_95 (by decide) ?_
        exact J123 _ _ hw _ _ _ hP hD hS (lv_sub hl [0, 1] rfl)
    · replace hw := And.right hw c26
      refine lv_aload_n hx hb dX4_mix_48 rfl (lv_at hl 0 rfl) ?_
      refine lv_aload_n hx hb dX4_mix_49 rfl (lv_at hl 0 rfl) ?_
      refine va_get (D := (dC, dI)) (ci := 3) (v := .ref (gm 12)) (C := RX4) (T := TX4) (N := 23) hx hb hts iX4 hown hK hP 0 rfl rfl 19 (by decide) (hts _ (xm m547)) (fun _ h9 => h9) rfl dX4_mix_50 ?_
      have hPc : va_P (dC, dI) vwCl (w_md gm cA um) _ := hP
      have hDc := hD.sub (ws' := (w_md gm cA um)) [0, 1, 2, 3, 4, 5, 6, 7, 8, 9, 10, 11, 12, 13, 14, 15] (by decide) rfl
      have hFc := va_free (wc := (w_md gm cA um)) hD hS hA [0, 1, 2, 3, 4, 5, 6, 7, 8, 9, 10, 11, 12, 13, 14, 15] rfl
      refine va_callv (va_runV (As := [.ref (gm 12)]) (rest := []) ⟨hx, hb, hml, hown, hts⟩ (c_X4_copyT l dC dI cA gm _ um _ hw) (gcV 1 hts m671 m668 m670 m15 m24 rfl rfl (by decide +kernel) ⟨Nat.le_of_ble_eq_true rfl, Nat.le_of_ble_eq_true rfl⟩) ⟨xbl2, va_recv hK hPc (ci := 3) (q0 := 0) rfl rfl, fun U hU hW => ⟨rfl, by rw [hU], by rw [hU]; exact hPc, va_K.moved hW.alike hK, hDc.weaken (fun _ _ _ _ => trivial)⟩⟩ rfl rfl hl.1 rfl (lv_room (Nat.le_of_ble_eq_true rfl)) dX4_mix_53 ⟨Nat.le_of_ble_eq_true rfl, Nat.le_of_ble_eq_true rfl⟩) hS (fun q _ h => hFc q h) hFc (fun u t H1 locs ht hvm hw hB hz1 hk1 hS => ?_)
      obtain ⟨um22, e_u⟩ : ∃ z, z = u := ⟨_, rfl⟩
      subst e_u
      obtain ⟨hP1, hK1, hD1⟩ := hB
      rw [ht] at hP1
      have hP : va_P (dC, dI) vwCl (w_md gm cA um22) H1 := hP1
      have hD : va_D A (w_md gm cA um22) := hD1.weaken (fun k q hk h => hFc q.1 h)
      clear hP1 hD1 hK1 hk1 hz1 hFc hDc hPc ht
      generalize H1 = H at hP hS ⊢
      refine lv_aload_n hx hb dX4_mix_56 rfl (lv_at hl 0 rfl) ?_
      refine lv_aload_n hx hb dX4_mix_57 rfl (lv_at hl 0 rfl) ?_
      refine va_get (D := (dC, dI)) (ci := 3) (v := .ref (gm 13)) (C := RX4) (T := TX4) (N := 23) hx hb hts iX4 hown hK hP 0 rfl rfl 20 (by decide) (hts _ (xm m548)) (fun _ h9 => h9) rfl dX4_mix_58 ?_
      have hPc := hP.sub (ws' := (w_a3 (gm 13) cA (um22 13))) [13] rfl
      refine vp_callSi (va_Run.run (va_runS (As := [.ref (gm 13)]) (rest := [.ref (gm 0)]) ⟨hx, hb, hml, hown, hts⟩ (c_X4_sat l dC dI cA (gm 13) (um22 13) _ hw) (gcS 1 hts m674 m672 m673 m24 rfl rfl (by decide +kernel) ⟨Nat.le_of_ble_eq_true rfl, Nat.le_of_ble_eq_true rfl⟩) ⟨xbl1, fun U hU hW => ⟨rfl, by rw [hU]; exact hPc, va_K.moved hW.alike hK⟩⟩ rfl rfl hl.1 rfl (lv_room (Nat.le_of_ble_eq_true rfl)) dX4_mix_61 ⟨Nat.le_of_ble_eq_true rfl, Nat.le_of_ble_eq_true rfl⟩)) (fun r23 hw => ?_)
      have hPc : va_P (dC, dI) vwCl (w_md gm cA um22) _ := hP
      have hDc := hD.sub (ws' := (w_md gm cA um22)) [0, 1, 2, 3, 4, 5, 6, 7, 8, 9, 10, 11, 12, 13, 14, 15] (by decide) rfl
      have hFc := va_free (wc := (w_md gm cA um22)) hD hS hA [0, 1, 2, 3, 4, 5, 6, 7, 8, 9, 10, 11, 12, 13, 14, 15] rfl
      refine va_callv (va_runV (As := [.int r23]) (rest := []) ⟨hx, hb, hml, hown, hts⟩ (c_X4_setSat l dC dI cA gm _ um22 r23 _ hw) (gcV 1 hts m684 m681 m683 m16 m24 rfl rfl (by decide +kernel) ⟨Nat.le_of_ble_eq_true rfl, Nat.le_of_ble_eq_true rfl⟩) ⟨xbl2, va_recv hK hPc (ci := 3) (q0 := 0) rfl rfl, fun U hU hW => ⟨rfl, by rw [hU], by rw [hU]; exact hPc, va_K.moved hW.alike hK, hDc.weaken (fun _ _ _ _ => trivial)⟩⟩ rfl rfl hl.1 rfl (lv_room (Nat.le_of_ble_eq_true rfl)) dX4_mix_64 ⟨Nat.le_of_ble_eq_true rfl, Nat.le_of_ble_eq_true rfl⟩) hS (fun q _ h => hFc q h) hFc (fun u t H1 locs ht hvm hw hB hz1 hk1 hS => ?_)
      obtain ⟨um25, e_u⟩ : ∃ z, z = u := ⟨_, rfl⟩
      subst e_u
      obtain ⟨hP1, hK1, hD1⟩ := hB
      rw [ht] at hP1
      have hP : va_P (dC, dI) vwCl (w_md gm cA um25) H1 := hP1
      have hD : va_D A (w_md gm cA um25) := hD1.weaken (fun k q hk h => hFc q.1 h)
      clear hP1 hD1 hK1 hk1 hz1 hFc hDc hPc ht
      generalize H1 = H at hP hS ⊢
      refine lv_goto (tgt := 123) hx hb dX4_mix_67 (by decide) ?_
      exact J123 _ _ hw _ _ _ hP hD hS (lv_sub hl [0, 1] rfl)
  · replace hw := And.right hw c32
    refine lv_iconst (v := 0) hx hb dX4_mix_6 (by decide) ?_
    refine lv_istore_n (lv' := [(2, .int 0), (0, .ref (gm 0)), (1, .int p0)]) hx hb dX4_mix_7 rfl hl (by decide) rfl (fun ls hl => ?_)
    obtain ⟨N8, hw⟩ := hw
    refine L8 _ _ (fun um31 hw H locs ls hP hD hS hl => ?_) N8 _ _ hw _ _ _ hP hD hS (lv_sub hl [1, 2, 0] rfl)
    exact W.vret hx hb hr (fun t ht hW => ⟨⟨um31, rfl, hw, by rw [ht]; exact hP, va_K.moved hW.alike hK, hD⟩, hS.F ht⟩) hS.2.2 dX4_mix_41
