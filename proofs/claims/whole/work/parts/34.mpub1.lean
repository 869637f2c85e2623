theorem m9 : Cond.selects RX4 yX4_leave yX4_leave ∈ gG := gG_mk (i := 9) (by decide +kernel) (by decide +kernel)
theorem m10 : Cond.selects RX4 yX4_pointAt yX4_pointAt ∈ gG := gG_mk (i := 10) (by decide +kernel) (by decide +kernel)
theorem m11 : Cond.selects RX4 yX4_result yX4_result ∈ gG := gG_mk (i := 11) (by decide +kernel) (by decide +kernel)
theorem m12 : Cond.selects RX4 yX4_leaves yX4_leaves ∈ gG := gG_mk (i := 12) (by decide +kernel) (by decide +kernel)
theorem m13 : Cond.selects RX4 yX4_put yX4_put ∈ gG := gG_mk (i := 13) (by decide +kernel) (by decide +kernel)
theorem m531 : Cond.fieldLink RX4 7 "BlendRowsModel" "bound" "I" ∈ gG := gG_mk (i := 531) (by decide +kernel) (by decide +kernel)
theorem m532 : Cond.fieldLink RX4 13 "BlendRowsModel" "depth" "I" ∈ gG := gG_mk (i := 532) (by decide +kernel) (by decide +kernel)
theorem m533 : Cond.fieldLink RX4 16 "BlendRowsModel" "placeOf" "[I" ∈ gG := gG_mk (i := 533) (by decide +kernel) (by decide +kernel)
theorem m546 : Cond.fieldLink RX4 132 "BlendRowsModel" "elements" "I" ∈ gG := gG_mk (i := 546) (by decide +kernel) (by decide +kernel)
theorem m626 : Cond.methodLink RX4 135 yX4_isByte ∈ gG := gG_mk (i := 626) (by decide +kernel) (by decide +kernel)
theorem m627 : Cond.static yX4_isByte ∈ gG := gG_mk (i := 627) (by decide +kernel) (by decide +kernel)
theorem m628 : Cond.code yX4_isByte cX4_isByte 1 (some .boolean) ∈ gG := gG_mk (i := 628) (by decide +kernel) (by decide +kernel)
theorem m629 : Cond.methodLink RX4 139 yX4_leave ∈ gG := gG_mk (i := 629) (by decide +kernel) (by decide +kernel)
theorem m631 : Cond.instanceMethod yX4_leave ∈ gG := gG_mk (i := 631) (by decide +kernel) (by decide +kernel)
theorem m632 : Cond.code yX4_leave cX4_leave 2 (some .int) ∈ gG := gG_mk (i := 632) (by decide +kernel) (by decide +kernel)
theorem m633 : Cond.methodLink RX4 143 yX4_pointAt ∈ gG := gG_mk (i := 633) (by decide +kernel) (by decide +kernel)
theorem m635 : Cond.instanceMethod yX4_pointAt ∈ gG := gG_mk (i := 635) (by decide +kernel) (by decide +kernel)
theorem m636 : Cond.code yX4_pointAt cX4_pointAt 3 (some .int) ∈ gG := gG_mk (i := 636) (by decide +kernel) (by decide +kernel)
theorem m637 : Cond.methodLink RX4 146 yX4_result ∈ gG := gG_mk (i := 637) (by decide +kernel) (by decide +kernel)
theorem m639 : Cond.instanceMethod yX4_result ∈ gG := gG_mk (i := 639) (by decide +kernel) (by decide +kernel)
theorem m640 : Cond.code yX4_result cX4_result 9 none ∈ gG := gG_mk (i := 640) (by decide +kernel) (by decide +kernel)
theorem m641 : Cond.methodLink RX4 150 yX4_leaves ∈ gG := gG_mk (i := 641) (by decide +kernel) (by decide +kernel)
theorem m643 : Cond.instanceMethod yX4_leaves ∈ gG := gG_mk (i := 643) (by decide +kernel) (by decide +kernel)
theorem m644 : Cond.code yX4_leaves cX4_leaves 3 (some .int) ∈ gG := gG_mk (i := 644) (by decide +kernel) (by decide +kernel)
theorem m645 : Cond.methodLink RX4 153 yX4_put ∈ gG := gG_mk (i := 645) (by decide +kernel) (by decide +kernel)
theorem m647 : Cond.instanceMethod yX4_put ∈ gG := gG_mk (i := 647) (by decide +kernel) (by decide +kernel)
theorem m648 : Cond.code yX4_put cX4_put 16 none ∈ gG := gG_mk (i := 648) (by decide +kernel) (by decide +kernel)
abbrev wX4_told : List Cond := Cond.code yX4_told cX4_told 2 (some .int) :: gG
def wp_X4_told_15 (P : Int32 → (Nat → Nat → Int32) → Prop) (um : Nat → Nat → Int32) (x1 : Int32) (s0 : Int32) : Prop :=
  ∀ um1 : Nat → Nat → Int32, um1 = st um 0 0 s0 → (((um1 0 0) ≤ 0 → ((3 ≤ x1 → ((¬ x1 = 3 → ((¬ x1 = 4 → P (um1 0 7) um1) ∧
  (x1 = 4 → (((um1 0 6) = 0 → P 0 um1) ∧
  (¬ (um1 0 6) = 0 → P 1 um1))))) ∧
  (x1 = 3 → P (um1 0 3) um1))) ∧
  (¬ 3 ≤ x1 → ((¬ x1 = 0 → ((¬ x1 = 1 → P (um1 0 4) um1) ∧
  (x1 = 1 → P (um1 0 2) um1))) ∧
  (x1 = 0 → P (um1 0 1) um1))))) ∧
  (¬ (um1 0 0) ≤ 0 → P 0 um1))
def wp_X4_told_10 (P : Int32 → (Nat → Nat → Int32) → Prop) (um : Nat → Nat → Int32) (x1 : Int32) : Prop :=
  wp_X4_told_15 P um x1 1
def wp_X4_told (um : Nat → Nat → Int32) (p0 : Int32) (P : Int32 → (Nat → Nat → Int32) → Prop) : Prop :=
  ((p0 < 0 → wp_X4_told_10 P um p0) ∧
  (¬ p0 < 0 → ((p0 ≤ 5 → wp_X4_told_15 P um p0 0) ∧
  (¬ p0 ≤ 5 → wp_X4_told_10 P um p0))))
abbrev rm_X4_told : Room := { frames := 0, cells := 0, slots := 0, locals := 0 }
set_option maxHeartbeats 4000000 in
set_option maxRecDepth 100000 in
theorem c_X4_told (l : Launch) (dC : Nat → ClassId) (dI : Nat → Nat → Nat) (cA : Nat → ClassId) (gm : Nat → Nat) (sz : Nat) (um : Nat → Nat → Int32) (p0 : Int32) (P : Int32 → (Nat → Nat → Int32) → Prop) (hw : wp_X4_told um p0 P) : Met l yX4_told wX4_told rm_X4_told (xP2 dC dI cA (w_md gm cA um) sz [.ref (gm 0), .int p0]) (va_Qi (fun r (u : (Nat → Nat → Int32)) => P r u) (xB dC dI cA (fun u : (Nat → Nat → Int32) => w_md gm cA u) (va_A (w_md gm cA um) sz)) (va_A (w_md gm cA um) sz)) 0 0 (va_A (w_md gm cA um) sz) := by
  refine Met.ofW (cc := cX4_told) (maxL := 2) (ret := (some .int)) (by decide) rfl ?_
  intro p e s m args below meth c s₁ B hml hv
  obtain ⟨hargs, hsz, hP, hK, hD0⟩ := hv
  have hx := B.exec
  have hb := B.bytes
  have hr := B.returns
  have hts := atoms_spec (ws := wX4_told) B.pre
  have hown : s.vm.findClass RX4 = some m.cls := findClass_of_methodNamed B.named
  have hlocks := B.notSynchronized
  subst hsz
  have hD := hD0.self (sz := s.heap.size)
  generalize hAe : va_A (w_md gm cA um) s.heap.size = A at hD ⊢
  have hA : ∀ q : Nat, s.heap.size ≤ q → A q := fun q h => by rw [← hAe]; exact Or.inr h
  have hS : va_S A s.heap s.heap [] := va_S.rf
  clear hAe hD0
  have J15 : ∀ (um : Nat → Nat → Int32) (x1 : Int32) (s0 : Int32), wp_X4_told_15 P um x1 s0 → ∀ (H : Heap) (locs : List Loc) (ls : Array Slot), va_P (dC, dI) vwCl (w_md gm cA um) H → va_D A (w_md gm cA um) → va_S A s.heap H locs → lv_has ls 2 [(0, .ref (gm 0)), (1, .int x1)] → W p l e (headSpec wX4_told rm_X4_told).room s m args below meth c H locs 0 0 (MQ below (va_Qi (fun r (u : (Nat → Nat → Int32)) => P r u) (xB dC dI cA (fun u : (Nat → Nat → Int32) => w_md gm cA u) A) A) args s 0 0 A) (F0 m 15 ls [.int s0, .ref (gm 0)]) := by
    intro  um x1 s0 hw H locs ls hP hD hS hl
    obtain ⟨um1, e_um1⟩ : ∃ z, z = st um 0 0 s0 := ⟨_, rfl⟩
    refine va_put (D := (dC, dI)) (ci := 3) (v := .int s0) (ty := .int) (C := RX4) (T := TX4) (N := 23) hx hb hts iX4 tyX4 tyX4_ok nmX4 hown hK hP hD hS 0 rfl rfl 0 (by decide) (hts _ (xm m528)) (fun _ h9 => h9) rfl (by decide +kernel) rfl rfl (Nat.le_of_ble_eq_true rfl) dX4_told_15 (fun H locs hP hD hS => ?_)
    replace hw := hw um1 e_um1
    have hP : va_P (dC, dI) vwCl (w_md gm cA um1) H := by rw [e_um1]; exact hP
    have hD : va_D A (w_md gm cA um1) := by rw [e_um1]; exact hD
    refine lv_aload_n hx hb dX4_told_18 rfl (lv_at hl 0 rfl) ?_
    refine va_get (D := (dC, dI)) (ci := 3) (v := .int (um1 0 0)) (C := RX4) (T := TX4) (N := 23) hx hb hts iX4 hown hK hP 0 rfl rfl 0 (by decide) (hts _ (xm m528)) (fun _ h9 => h9) rfl dX4_told_19 ?_
    refine lv_if_le (tgt := 27) hx hb dX4_told_22 (by decide) (fun c8 => ?_) (fun c8 => ?_)
    · replace hw := And.left hw c8
      refine lv_iload_n hx hb dX4_told_27 rfl (lv_at hl 1 rfl) ?_
      refine lv_iconst (v := 3) hx hb dX4_told_28 (by decide) ?_
      refine lv_icmp_ge (tgt := 60) hx hb dX4_told_29 (by decide) (fun c7 => ?_) (fun c7 => ?_)
      · replace hw := And.left hw c7
        refine lv_iload_n hx hb dX4_told_60 rfl (lv_at hl 1 rfl) ?_
        refine lv_iconst (v := 3) hx hb dX4_told_61 (by decide) ?_
        refine lv_icmp_ne (tgt := 72) hx hb dX4_told_62 (by decide) (fun c4 => ?_) (fun c4 => ?_)
        · replace hw := And.left hw c4
          refine lv_iload_n hx hb dX4_told_72 rfl (lv_at hl 1 rfl) ?_
          refine lv_iconst (v := 4) hx hb dX4_told_73 (by decide) ?_
          refine lv_icmp_ne (tgt := 92) hx hb dX4_told_74 (by decide) (fun c3 => ?_) (fun c3 => ?_)
          · replace hw := And.left hw c3
            refine lv_aload_n hx hb dX4_told_92 rfl (lv_at hl 0 rfl) ?_
            refine va_get (D := (dC, dI)) (ci := 3) (v := .int (um1 0 7)) (C := RX4) (T := TX4) (N := 23) hx hb hts iX4 hown hK hP 0 rfl rfl 18 (by decide) (hts _ (xm m546)) (fun _ h9 => h9) rfl dX4_told_93 ?_
            exact W.iret hx hb hr (fun t ht hW => ⟨⟨_, um1, rfl, hw, by rw [ht]; exact hP, va_K.moved hW.alike hK, hD⟩, hS.F ht⟩) hS.2.2 dX4_told_96
          · replace hw := And.right hw c3
            refine lv_aload_n hx hb dX4_told_77 rfl (lv_at hl 0 rfl) ?_
            refine va_get (D := (dC, dI)) (ci := 3) (v := .int (um1 0 6)) (C := RX4) (T := TX4) (N := 23) hx hb hts iX4 hown hK hP 0 rfl rfl 13 (by decide) (hts _ (xm m541)) (fun _ h9 => h9) rfl dX4_told_78 ?_
            refine lv_if_eq (tgt := 88) hx hb dX4_told_81 (by decide) (fun c2 => ?_) (fun c2 => ?_)
            · replace hw := And.left hw c2
              refine lv_iconst (v := 0) hx hb dX4_told_88 (by decide) ?_
              refine lv_goto (tgt := 96) hx hb dX4_told_89 (by decide) ?_
              exact W.iret hx hb hr (fun t ht hW => ⟨⟨_, um1, rfl, hw, by rw [ht]; exact hP, va_K.moved hW.alike hK, hD⟩, hS.F ht⟩) hS.2.2 dX4_told_96
            · replace hw := And.right hw c2
              refine lv_iconst (v := 1) hx hb dX4_told_84 (by decide) ?_
              refine lv_goto (tgt := 96) hx hb dX4_told_85 (by decide) ?_
              exact W.iret hx hb hr (fun t ht hW => ⟨⟨_, um1, rfl, hw, by rw [ht]; exact hP, va_K.moved hW.alike hK, hD⟩, hS.F ht⟩) hS.2.2 dX4_told_96
        · replace hw := And.right hw c4
          refine lv_aload_n hx hb dX4_told_65 rfl (lv_at hl 0 rfl) ?_
          refine va_get (D := (dC, dI)) (ci := 3) (v := .int (um1 0 3)) (C := RX4) (T := TX4) (N := 23) hx hb hts iX4 hown hK hP 0 rfl rfl 3 (by decide) (hts _ (xm m531)) (fun _ h9 => h9) rfl dX4_told_66 ?_
          refine lv_goto (tgt := 96) hx hb dX4_told_69 (by decide) ?_
          exact W.iret hx hb hr (fun t ht hW => ⟨⟨_, um1, rfl, hw, by rw [ht]; exact hP, va_K.moved hW.alike hK, hD⟩, hS.F ht⟩) hS.2.2 dX4_told_96
      · replace hw := And.right hw c7
        refine lv_iload_n hx hb dX4_told_32 rfl (lv_at hl 1 rfl) ?_
        refine lv_if_ne (tgt := 43) hx hb dX4_told_33 (by decide) (fun c6 => ?_) (fun c6 => ?_)
        · replace hw := And.left hw c6
          refine lv_iload_n hx hb dX4_told_43 rfl (lv_at hl 1 rfl) ?_
          refine lv_iconst (v := 1) hx hb dX4_told_44 (by decide) ?_
          refine lv_icmp_ne (tgt := 55) hx hb dX4_told_45 (by decide) (fun c5 => ?_) (fun c5 => ?_)
          · replace hw := And.left hw c5
            refine lv_aload_n hx hb dX4_told_55 rfl (lv_at hl 0 rfl) ?_
            refine va_get (D := (dC, dI)) (ci := 3) (v := .int (um1 0 4)) (C := RX4) (T := TX4) (N := 23) hx hb hts iX4 hown hK hP 0 rfl rfl 4 (by decide) (hts _ (xm m532)) (fun _ h9 => h9) rfl dX4_told_56 ?_
            exact W.iret hx hb hr (fun t ht hW => ⟨⟨_, um1, rfl, hw, by rw [ht]; exact hP, va_K.moved hW.alike hK, hD⟩, hS.F ht⟩) hS.2.2 dX4_told_59
          · replace hw := And.right hw c5
            refine lv_aload_n hx hb dX4_told_48 rfl (lv_at hl 0 rfl) ?_
            refine va_get (D := (dC, dI)) (ci := 3) (v := .int (um1 0 2)) (C := RX4) (T := TX4) (N := 23) hx hb hts iX4 hown hK hP 0 rfl rfl 2 (by decide) (hts _ (xm m530)) (fun _ h9 => h9) rfl dX4_told_49 ?_
            refine lv_goto (tgt := 59) hx hb dX4_told_52 (by decide) ?_
            exact W.iret hx hb hr (fun t ht hW => ⟨⟨_, um1, rfl, hw, by rw [ht]; exact hP, va_K.moved hW.alike hK, hD⟩, hS.F ht⟩) hS.2.2 dX4_told_59
        · replace hw := And.right hw c6
          refine lv_aload_n hx hb dX4_told_36 rfl (lv_at hl 0 rfl) ?_
          refine va_get (D := (dC, dI)) (ci := 3) (v := .int (um1 0 1)) (C := RX4) (T := TX4) (N := 23) hx hb hts iX4 hown hK hP 0 rfl rfl 1 (by decide) (hts _ (xm m529)) (fun _ h9 => h9) rfl dX4_told_37 ?_
          refine lv_goto (tgt := 59) hx hb dX4_told_40 (by decide) ?_
          exact W.iret hx hb hr (fun t ht hW => ⟨⟨_, um1, rfl, hw, by rw [ht]; exact hP, va_K.moved hW.alike hK, hD⟩, hS.F ht⟩) hS.2.2 dX4_told_59
    · replace hw := And.right hw c8
      refine lv_iconst (v := 0) hx hb dX4_told_25 (by decide) ?_
      exact W.iret hx hb hr (fun t ht hW => ⟨⟨_, um1, rfl, hw, by rw [ht]; exact hP, va_K.moved hW.alike hK, hD⟩, hS.F ht⟩) hS.2.2 dX4_told_26
  have J10 : ∀ (um : Nat → Nat → Int32) (x1 : Int32), wp_X4_told_10 P um x1 → ∀ (H : Heap) (locs : List Loc) (ls : Array Slot), va_P (dC, dI) vwCl (w_md gm cA um) H → va_D A (w_md gm cA um) → va_S A s.heap H locs → lv_has ls 2 [(0, .ref (gm 0)), (1, .int x1)] → W p l e (headSpec wX4_told rm_X4_told).room s m args below meth c H locs 0 0 (MQ below (va_Qi (fun r (u : (Nat → Nat → Int32)) => P r u) (xB dC dI cA (fun u : (Nat → Nat → Int32) => w_md gm cA u) A) A) args s 0 0 A) (F0 m 10 ls [.ref (gm 0)]) := by
    intro  um x1 hw H locs ls hP hD hS hl
    refine lv_iconst (v := 1) hx hb dX4_told_10 (by decide) ?_
    refine lv_goto (tgt := 15) hx hb dX4_told_11 (by decide) ?_
    exact J15 _ _ _ hw _ _ _ hP hD hS (lv_sub hl [0, 1] rfl)
  have hl := lv_entry ([.ref (gm 0), .int p0]) (n := 2) (Nat.le_of_ble_eq_true rfl)
  rw [show entryFrame m args 2 = entryFrame m (([.ref (gm 0), .int p0] : List Value).toArray) 2 from by rw [hargs], lg_entry_eq]
  generalize (lg_sl ([.ref (gm 0), .int p0]) ++ List.replicate (2 - (lg_sl ([.ref (gm 0), .int p0])).length) Slot.unset).toArray = ls at hl ⊢
  have hl : lv_has ls 2 [(0, .ref (gm 0)), (1, .int p0)] := hl
  have hP : va_P (dC, dI) vwCl (w_md gm cA um) s.heap := hP
  refine lv_aload_n hx hb dX4_told_0 rfl (lv_at hl 0 rfl) ?_
  refine lv_iload_n hx hb dX4_told_1 rfl (lv_at hl 1 rfl) ?_
  refine lv_if_lt (tgt := 10) hx hb dX4_told_2 (by decide) (fun c10 => ?_) (fun c10 => ?_)
  · replace hw := And.left hw c10
    exact J10 _ _ hw _ _ _ hP hD hS (lv_sub hl [0, 1] rfl)
  · replace hw := And.right hw c10
    refine lv_iload_n hx hb dX4_told_5 rfl (lv_at hl 1 rfl) ?_
    refine lv_iconst (v := 5) hx hb dX4_told_6 (by decide) ?_
    refine lv_icmp_le (tgt := 14) hx hb dX4_told_7 (by decide) (fun c9 => ?_) (fun c9 => ?_)
    · replace hw := And.left hw c9
      refine lv_iconst (v := 0) hx hb dX4_told_14 (by decide) ?_
      exact J15 _ _ _ hw _ _ _ hP hD hS (lv_sub hl [0, 1] rfl)
    · replace hw := And.right hw c9
      exact J10 _ _ hw _ _ _ hP hD hS (lv_sub hl [0, 1] rfl)
abbrev wX4_bound : List Cond := Cond.code yX4_bound cX4_bound 2 none :: gG
def wp_X4_bound_17 (P : (Nat → Nat → Int32) → Prop) (um : Nat → Nat → Int32) (x1 : Int32) (s0 : Int32) : Prop :=
  ∀ um1 : Nat → Nat → Int32, um1 = st um 0 0 s0 → (((um1 0 0) ≤ 0 → ∀ um2 : Nat → Nat → Int32, um2 = st um1 0 3 x1 → P um2) ∧
  (¬ (um1 0 0) ≤ 0 → ∀ um3 : Nat → Nat → Int32, um3 = st um1 0 3 (um1 0 3) → P um3))
def wp_X4_bound_12 (P : (Nat → Nat → Int32) → Prop) (um : Nat → Nat → Int32) (x1 : Int32) : Prop :=
  wp_X4_bound_17 P um x1 1
def wp_X4_bound (um : Nat → Nat → Int32) (p0 : Int32) (P : (Nat → Nat → Int32) → Prop) : Prop :=
  ((p0 < 1 → wp_X4_bound_12 P um p0) ∧
  (¬ p0 < 1 → ((p0 ≤ 6 → wp_X4_bound_17 P um p0 0) ∧
  (¬ p0 ≤ 6 → wp_X4_bound_12 P um p0))))
abbrev rm_X4_bound : Room := { frames := 0, cells := 0, slots := 0, locals := 0 }
set_option maxHeartbeats 4000000 in
set_option maxRecDepth 100000 in
theorem c_X4_bound (l : Launch) (dC : Nat → ClassId) (dI : Nat → Nat → Nat) (cA : Nat → ClassId) (gm : Nat → Nat) (sz : Nat) (um : Nat → Nat → Int32) (p0 : Int32) (P : (Nat → Nat → Int32) → Prop) (hw : wp_X4_bound um p0 P) : Met l yX4_bound wX4_bound rm_X4_bound (xP2 dC dI cA (w_md gm cA um) sz [.ref (gm 0), .int p0]) (va_Qv (fun (u : (Nat → Nat → Int32)) => P u) (xB dC dI cA (fun u : (Nat → Nat → Int32) => w_md gm cA u) (va_A (w_md gm cA um) sz)) (va_A (w_md gm cA um) sz)) 0 0 (va_A (w_md gm cA um) sz) := by
  refine Met.ofW (cc := cX4_bound) (maxL := 2) (ret := none) (by decide) rfl ?_
  intro p e s m args below meth c s₁ B hml hv
  obtain ⟨hargs, hsz, hP, hK, hD0⟩ := hv
  have hx := B.exec
  have hb := B.bytes
  have hr := B.returns
  have hts := atoms_spec (ws := wX4_bound) B.pre
  have hown : s.vm.findClass RX4 = some m.cls := findClass_of_methodNamed B.named
  have hlocks := B.notSynchronized
  subst hsz
  have hD := hD0.self (sz := s.heap.size)
  generalize hAe : va_A (w_md gm cA um) s.heap.size = A at hD ⊢
  have hA : ∀ q : Nat, s.heap.size ≤ q → A q := fun q h => by rw [← hAe]; exact Or.inr h
  have hS : va_S A s.heap s.heap [] := va_S.rf
  clear hAe hD0
  have J17 : ∀ (um : Nat → Nat → Int32) (x1 : Int32) (s0 : Int32), wp_X4_bound_17 P um x1 s0 → ∀ (H : Heap) (locs : List Loc) (ls : Array Slot), va_P (dC, dI) vwCl (w_md gm cA um) H → va_D A (w_md gm cA um) → va_S A s.heap H locs → lv_has ls 2 [(0, .ref (gm 0)), (1, .int x1)] → W p l e (headSpec wX4_bound rm_X4_bound).room s m args below meth c H locs 0 0 (MQ below (va_Qv (fun (u : (Nat → Nat → Int32)) => P u) (xB dC dI cA (fun u : (Nat → Nat → Int32) => w_md gm cA u) A) A) args s 0 0 A) (F0 m 17 ls [.int s0, .ref (gm 0)]) := by
    intro  um x1 s0 hw H locs ls hP hD hS hl
    obtain ⟨um1, e_um1⟩ : ∃ z, z = st um 0 0 s0 := ⟨_, rfl⟩
    refine va_put (D := (dC, dI)) (ci := 3) (v := .int s0) (ty := .int) (C := RX4) (T := TX4) (N := 23) hx hb hts iX4 tyX4 tyX4_ok nmX4 hown hK hP hD hS 0 rfl rfl 0 (by decide) (hts _ (xm m528)) (fun _ h9 => h9) rfl (by decide +kernel) rfl rfl (Nat.le_of_ble_eq_true rfl) dX4_bound_17 (fun H locs hP hD hS => ?_)
    replace hw := hw um1 e_um1
    have hP : va_P (dC, dI) vwCl (w_md gm cA um1) H := by rw [e_um1]; exact hP
    have hD : va_D A (w_md gm cA um1) := by rw [e_um1]; exact hD
    refine lv_aload_n hx hb dX4_bound_20 rfl (lv_at hl 0 rfl) ?_
    refine lv_aload_n hx hb dX4_bound_21 rfl (lv_at hl 0 rfl) ?_
    refine va_get (D := (dC, dI)) (ci := 3) (v := .int (um1 0 0)) (C := RX4) (T := TX4) (N := 23) hx hb hts iX4 hown hK hP 0 rfl rfl 0 (by decide) (hts _ (xm m528)) (fun _ h9 => h9) rfl dX4_bound_22 ?_
    refine lv_if_le (tgt := 35) hx hb dX4_bound_25 (by decide) (fun c4 => ?_) (fun c4 => ?_)
    · replace hw := And.left hw c4
      refine lv_iload_n hx hb dX4_bound_35 rfl (lv_at hl 1 rfl) ?_
      obtain ⟨um2, e_um2⟩ : ∃ z, z = st um1 0 3 x1 := ⟨_, rfl⟩
      refine va_put (D := (dC, dI)) (ci := 3) (v := .int x1) (ty := .int) (C := RX4) (T := TX4) (N := 23) hx hb hts iX4 tyX4 tyX4_ok nmX4 hown hK hP hD hS 0 rfl rfl 3 (by decide) (hts _ (xm m531)) (fun _ h9 => h9) rfl (by decide +kernel) rfl rfl (Nat.le_of_ble_eq_true rfl) dX4_bound_36 (fun H locs hP hD hS => ?_)
      replace hw := hw um2 e_um2
      have hP : va_P (dC, dI) vwCl (w_md gm cA um2) H := by rw [e_um2]; exact hP
      have hD : va_D A (w_md gm cA um2) := by rw [e_um2]; exact hD
      exact W.vret hx hb hr (fun t ht hW => ⟨⟨um2, rfl, hw, by rw [ht]; exact hP, va_K.moved hW.alike hK, hD⟩, hS.F ht⟩) hS.2.2 dX4_bound_39
    · replace hw := And.right hw c4
      refine lv_aload_n hx hb dX4_bound_28 rfl (lv_at hl 0 rfl) ?_
      refine va_get (D := (dC, dI)) (ci := 3) (v := .int (um1 0 3)) (C := RX4) (T := TX4) (N := 23) hx hb hts iX4 hown hK hP 0 rfl rfl 3 (by decide) (hts _ (xm m531)) (fun _ h9 => h9) rfl dX4_bound_29 ?_
      refine lv_goto (tgt := 36) hx hb dX4_bound_32 (by decide) ?_
      obtain ⟨um3, e_um3⟩ : ∃ z, z = st um1 0 3 (um1 0 3) := ⟨_, rfl⟩
      refine va_put (D := (dC, dI)) (ci := 3) (v := .int (um1 0 3)) (ty := .int) (C := RX4) (T := TX4) (N := 23) hx hb hts iX4 tyX4 tyX4_ok nmX4 hown hK hP hD hS 0 rfl rfl 3 (by decide) (hts _ (xm m531)) (fun _ h9 => h9) rfl (by decide +kernel) rfl rfl (Nat.le_of_ble_eq_true rfl) dX4_bound_36 (fun H locs hP hD hS => ?_)
      replace hw := hw um3 e_um3
      have hP : va_P (dC, dI) vwCl (w_md gm cA um3) H := by rw [e_um3]; exact hP
      have hD : va_D A (w_md gm cA um3) := by rw [e_um3]; exact hD
      exact W.vret hx hb hr (fun t ht hW => ⟨⟨um3, rfl, hw, by rw [ht]; exact hP, va_K.moved hW.alike hK, hD⟩, hS.F ht⟩) hS.2.2 dX4_bound_39
  have J12 : ∀ (um : Nat → Nat → Int32) (x1 : Int32), wp_X4_bound_12 P um x1 → ∀ (H : Heap) (locs : List Loc) (ls : Array Slot), va_P (dC, dI) vwCl (w_md gm cA um) H → va_D A (w_md gm cA um) → va_S A s.heap H locs → lv_has ls 2 [(0, .ref (gm 0)), (1, .int x1)] → W p l e (headSpec wX4_bound rm_X4_bound).room s m args below meth c H locs 0 0 (MQ below (va_Qv (fun (u : (Nat → Nat → Int32)) => P u) (xB dC dI cA (fun u : (Nat → Nat → Int32) => w_md gm cA u) A) A) args s 0 0 A) (F0 m 12 ls [.ref (gm 0)]) := by
    intro  um x1 hw H locs ls hP hD hS hl
    refine lv_iconst (v := 1) hx hb dX4_bound_12 (by decide) ?_
    refine lv_goto (tgt := 17) hx hb dX4_bound_13 (by decide) ?_
    exact J17 _ _ _ hw _ _ _ hP hD hS (lv_sub hl [0, 1] rfl)
  have hl := lv_entry ([.ref (gm 0), .int p0]) (n := 2) (Nat.le_of_ble_eq_true rfl)
  rw [show entryFrame m args 2 = entryFrame m (([.ref (gm 0), .int p0] : List Value).toArray) 2 from by rw [hargs], lg_entry_eq]
  generalize (lg_sl ([.ref (gm 0), .int p0]) ++ List.replicate (2 - (lg_sl ([.ref (gm 0), .int p0])).length) Slot.unset).toArray = ls at hl ⊢
  have hl : lv_has ls 2 [(0, .ref (gm 0)), (1, .int p0)] := hl
  have hP : va_P (dC, dI) vwCl (w_md gm cA um) s.heap := hP
  refine lv_aload_n hx hb dX4_bound_0 rfl (lv_at hl 0 rfl) ?_
  refine lv_iload_n hx hb dX4_bound_1 rfl (lv_at hl 1 rfl) ?_
  refine lv_iconst (v := 1) hx hb dX4_bound_2 (by decide) ?_
  refine lv_icmp_lt (tgt := 12) hx hb dX4_bound_3 (by decide) (fun c6 => ?_) (fun c6 => ?_)
  · replace hw := And.left hw c6
    exact J12 _ _ hw _ _ _ hP hD hS (lv_sub hl [0, 1] rfl)
  · replace hw := And.right hw c6
    refine lv_iload_n hx hb dX4_bound_6 rfl (lv_at hl 1 rfl) ?_
    refine lv_bipush (v := 6) hx hb dX4_bound_7 (by decide) ?_
    refine lv_icmp_le (tgt := 16) hx hb dX4_bound_9 (by decide) (fun c5 => ?_) (fun c5 => ?_)
    · replace hw := And.left hw c5
      refine lv_iconst (v := 0) hx hb dX4_bound_16 (by decide) ?_
      exact J17 _ _ _ hw _ _ _ hP hD hS (lv_sub hl [0, 1] rfl)
    · replace hw := And.right hw c5
      exact J12 _ _ hw _ _ _ hP hD hS (lv_sub hl [0, 1] rfl)
abbrev wX4_group : List Cond := Cond.code yX4_group cX4_group 9 (some .int) :: gG
def wp_X4_group_71 (P : Int32 → (Nat → Nat → Int32) → Prop) (um : Nat → Nat → Int32) : Prop :=
  (vp_in (um 0 4) 41 ∧ ∀ um3 : Nat → Nat → Int32, um3 = st um 1 (um 0 4).toNatClampNeg (-1) → P (um3 0 4) um3)
def wp_X4_group_217 (K : (Nat → Nat → Int32) → Int32 → Prop) (um : Nat → Nat → Int32) (x1 : Int32) (x4 : Int32) (x5 : Int32) (x6 : Int32) (x7 : Int32) (s0 : Int32) : Prop :=
  (vp_in ((3 * x6) + x7) 3456 ∧ ∀ um13 : Nat → Nat → Int32, um13 = st um 3 ((3 * x6) + x7).toNatClampNeg s0 → (vp_in ((3 * x6) + x7) 3456 ∧ ∀ um14 : Nat → Nat → Int32, um14 = st um13 5 ((3 * x6) + x7).toNatClampNeg s0 → ∀ v15 : Int32, v15 = x7 + 1 → K um14 v15))
def wp_X4_group_187 (KX : (Nat → Nat → Int32) → Prop) (x1 : Int32) (x4 : Int32) (x5 : Int32) (x6 : Int32) : Nat → (Nat → Nat → Int32) → Int32 → Prop
  | 0, _, _ => False
  | N187 + 1, um, x7 =>
    ((3 ≤ x7 → KX um) ∧
  (¬ 3 ≤ x7 → ((x1 = 0 → (vp_in ((3 * (x6 - 144)) + x7) 3456 ∧ wp_X4_group_217 (wp_X4_group_187 KX x1 x4 x5 x6 N187) um x1 x4 x5 x6 x7 (um 5 ((3 * (x6 - 144)) + x7).toNatClampNeg))) ∧
  (¬ x1 = 0 → wp_X4_group_217 (wp_X4_group_187 KX x1 x4 x5 x6 N187) um x1 x4 x5 x6 x7 0))))
def wp_X4_group_167 (K : (Nat → Nat → Int32) → Int32 → Prop) (um : Nat → Nat → Int32) (x1 : Int32) (x4 : Int32) (x5 : Int32) (x6 : Int32) (s0 : Int32) (s1 : Int32) : Prop :=
  (vp_in s1 1152 ∧ ∀ um10 : Nat → Nat → Int32, um10 = st um 4 s1.toNatClampNeg s0 → (vp_in x6 1152 ∧ ∀ um11 : Nat → Nat → Int32, um11 = st um10 6 x6.toNatClampNeg 0 → (vp_in x6 1152 ∧ ∀ um12 : Nat → Nat → Int32, um12 = st um11 7 x6.toNatClampNeg 0 → (∃ N187, wp_X4_group_187 (fun (um18 : Nat → Nat → Int32) => ∀ v19 : Int32, v19 = x5 + 1 → K um18 v19) x1 x4 x5 x6 N187 um12 0))))
def wp_X4_group_124 (KX : (Nat → Nat → Int32) → Prop) (x1 : Int32) (x4 : Int32) : Nat → (Nat → Nat → Int32) → Int32 → Prop
  | 0, _, _ => False
  | N124 + 1, um, x5 =>
    ((144 ≤ x5 → KX um) ∧
  (¬ 144 ≤ x5 → ∀ v8 : Int32, v8 = ((144 * x4) + x5) → ((x1 = 0 → wp_X4_alphaOf um (x4 - 1) x5 (fun r9 => wp_X4_group_167 (wp_X4_group_124 KX x1 x4 N124) um x1 x4 x5 v8 r9 v8)) ∧
  (¬ x1 = 0 → wp_X4_group_167 (wp_X4_group_124 KX x1 x4 N124) um x1 x4 x5 v8 0 v8))))
def wp_X4_group_45 (P : Int32 → (Nat → Nat → Int32) → Prop) (um : Nat → Nat → Int32) (x1 : Int32) (x2 : Int32) (s0 : Int32) : Prop :=
  ∀ um2 : Nat → Nat → Int32, um2 = st um 0 4 ((um 0 4) + 1) → ((¬ s0 = 0 → wp_X4_group_71 P um2) ∧
  (s0 = 0 → (((um2 0 4) ≤ (um2 0 3) → ∀ v4 : Int32, v4 = (um2 0 5) → ∀ um5 : Nat → Nat → Int32, um5 = st um2 0 5 ((um2 0 5) + 1) → (vp_in (um5 0 4) 41 ∧ ∀ um6 : Nat → Nat → Int32, um6 = st um5 1 (um5 0 4).toNatClampNeg v4 → (vp_in v4 8 ∧ ∀ um7 : Nat → Nat → Int32, um7 = st um6 2 v4.toNatClampNeg (vp_nar .boolean x2) → (∃ N124, wp_X4_group_124 (fun (um22 : Nat → Nat → Int32) => P (um22 0 4) um22) x1 v4 N124 um7 0)))) ∧
  (¬ (um2 0 4) ≤ (um2 0 3) → wp_X4_group_71 P um2))))
def wp_X4_group_15 (P : Int32 → (Nat → Nat → Int32) → Prop) (um : Nat → Nat → Int32) (x1 : Int32) (x2 : Int32) (s0 : Int32) : Prop :=
  ∀ um1 : Nat → Nat → Int32, um1 = st um 0 0 s0 → (((um1 0 0) ≤ 0 → (vp_in (um1 0 4) 41 ∧ ((¬ (um1 1 (um1 0 4).toNatClampNeg) = (-1) → wp_X4_group_45 P um1 x1 x2 0) ∧
  ((um1 1 (um1 0 4).toNatClampNeg) = (-1) → wp_X4_group_45 P um1 x1 x2 1)))) ∧
  (¬ (um1 0 0) ≤ 0 → P 0 um1))
def wp_X4_group (um : Nat → Nat → Int32) (p0 : Int32) (p1 : Int32) (P : Int32 → (Nat → Nat → Int32) → Prop) : Prop :=
  ((¬ (um 0 4) = 40 → wp_X4_group_15 P um p0 p1 0) ∧
  ((um 0 4) = 40 → wp_X4_group_15 P um p0 p1 1))
abbrev rm_X4_group : Room := { frames := 2, cells := 0, slots := 0, locals := 45 }
set_option maxHeartbeats 4000000 in
set_option maxRecDepth 100000 in
theorem c_X4_group (l : Launch) (dC : Nat → ClassId) (dI : Nat → Nat → Nat) (cA : Nat → ClassId) (gm : Nat → Nat) (sz : Nat) (um : Nat → Nat → Int32) (p0 : Int32) (p1 : Int32) (P : Int32 → (Nat → Nat → Int32) → Prop) (hw : wp_X4_group um p0 p1 P) : Met l yX4_group wX4_group rm_X4_group (xP2 dC dI cA (w_md gm cA um) sz [.ref (gm 0), .int p0, .int p1]) (va_Qi (fun r (u : (Nat → Nat → Int32)) => P r u) (xB dC dI cA (fun u : (Nat → Nat → Int32) => w_md gm cA u) (va_A (w_md gm cA um) sz)) (va_A (w_md gm cA um) sz)) 0 0 (va_A (w_md gm cA um) sz) := by
  refine Met.ofW (cc := cX4_group) (maxL := 9) (ret := (some .int)) (by decide) rfl ?_
  intro p e s m args below meth c s₁ B hml hv
  obtain ⟨hargs, hsz, hP, hK, hD0⟩ := hv
  have hx := B.exec
  have hb := B.bytes
  have hr := B.returns
  have hts := atoms_spec (ws := wX4_group) B.pre
  have hown : s.vm.findClass RX4 = some m.cls := findClass_of_methodNamed B.named
  have hlocks := B.notSynchronized
  subst hsz
  have hD := hD0.self (sz := s.heap.size)
  generalize hAe : va_A (w_md gm cA um) s.heap.size = A at hD ⊢
  have hA : ∀ q : Nat, s.heap.size ≤ q → A q := fun q h => by rw [← hAe]; exact Or.inr h
  have hS : va_S A s.heap s.heap [] := va_S.rf
  clear hAe hD0
  have J71 : ∀ (um : Nat → Nat → Int32), wp_X4_group_71 P um → ∀ (H : Heap) (locs : List Loc) (ls : Array Slot), va_P (dC, dI) vwCl (w_md gm cA um) H → va_D A (w_md gm cA um) → va_S A s.heap H locs → lv_has ls 9 [(0, .ref (gm 0))] → W p l e (headSpec wX4_group rm_X4_group).room s m args below meth c H locs 0 0 (MQ below (va_Qi (fun r (u : (Nat → Nat → Int32)) => P r u) (xB dC dI cA (fun u : (Nat → Nat → Int32) => w_md gm cA u) A) A) args s 0 0 A) (F0 m 71 ls []) := by
    intro  um hw H locs ls hP hD hS hl
    refine lv_aload_n hx hb dX4_group_71 rfl (lv_at hl 0 rfl) ?_
    refine va_get (D := (dC, dI)) (ci := 3) (v := .ref (gm 1)) (C := RX4) (T := TX4) (N := 23) hx hb hts iX4 hown hK hP 0 rfl rfl 5 (by decide) (hts _ (xm m533)) (fun _ h9 => h9) rfl dX4_group_72 ?_
    refine lv_aload_n hx hb dX4_group_75 rfl (lv_at hl 0 rfl) ?_
    refine va_get (D := (dC, dI)) (ci := 3) (v := .int (um 0 4)) (C := RX4) (T := TX4) (N := 23) hx hb hts iX4 hown hK hP 0 rfl rfl 4 (by decide) (hts _ (xm m532)) (fun _ h9 => h9) rfl dX4_group_76 ?_
    refine lv_iconst (v := (-1)) hx hb dX4_group_79 (by decide) ?_
    obtain ⟨um3, e_um3⟩ : ∃ z, z = st um 1 (um 0 4).toNatClampNeg (-1) := ⟨_, rfl⟩
    refine va_iast hx hb hK hP hD hS 1 0 rfl rfl (And.left hw) dX4_group_80 (fun H locs hP hD hS => ?_)
    replace hw := And.right hw
    replace hw := hw um3 e_um3
    have hP : va_P (dC, dI) vwCl (w_md gm cA um3) H := by rw [e_um3]; exact hP
    have hD : va_D A (w_md gm cA um3) := by rw [e_um3]; exact hD
    refine lv_aload_n hx hb dX4_group_81 rfl (lv_at hl 0 rfl) ?_
    refine va_get (D := (dC, dI)) (ci := 3) (v := .int (um3 0 4)) (C := RX4) (T := TX4) (N := 23) hx hb hts iX4 hown hK hP 0 rfl rfl 4 (by decide) (hts _ (xm m532)) (fun _ h9 => h9) rfl dX4_group_82 ?_
    exact W.iret hx hb hr (fun t ht hW => ⟨⟨_, um3, rfl, hw, by rw [ht]; exact hP, va_K.moved hW.alike hK, hD⟩, hS.F ht⟩) hS.2.2 dX4_group_85
  have J217 : ∀ (K : (Nat → Nat → Int32) → Int32 → Prop) (um : Nat → Nat → Int32) (x1 : Int32) (x4 : Int32) (x5 : Int32) (x6 : Int32) (x7 : Int32) (s0 : Int32), wp_X4_group_217 K um x1 x4 x5 x6 x7 s0 → (∀ (um : Nat → Nat → Int32) (x7 : Int32), K um x7 → ∀ (H : Heap) (locs : List Loc) (ls : Array Slot), va_P (dC, dI) vwCl (w_md gm cA um) H → va_D A (w_md gm cA um) → va_S A s.heap H locs → lv_has ls 9 [(0, .ref (gm 0)), (1, .int x1), (4, .int x4), (5, .int x5), (6, .int x6), (7, .int x7)] → W p l e (headSpec wX4_group rm_X4_group).room s m args below meth c H locs 0 0 (MQ below (va_Qi (fun r (u : (Nat → Nat → Int32)) => P r u) (xB dC dI cA (fun u : (Nat → Nat → Int32) => w_md gm cA u) A) A) args s 0 0 A) (F0 m 187 ls [])) → ∀ (H : Heap) (locs : List Loc) (ls : Array Slot), va_P (dC, dI) vwCl (w_md gm cA um) H → va_D A (w_md gm cA um) → va_S A s.heap H locs → lv_has ls 9 [(0, .ref (gm 0)), (1, .int x1), (4, .int x4), (5, .int x5), (6, .int x6), (7, .int x7)] → W p l e (headSpec wX4_group rm_X4_group).room s m args below meth c H locs 0 0 (MQ below (va_Qi (fun r (u : (Nat → Nat → Int32)) => P r u) (xB dC dI cA (fun u : (Nat → Nat → Int32) => w_md gm cA u) A) A) args s 0 0 A) (F0 m 217 ls [.int s0]) := by
    intro K um x1 x4 x5 x6 x7 s0 hw hk H locs ls hP hD hS hl
    refine lv_istore (lv' := [(8, .int s0), (0, .ref (gm 0)), (1, .int x1), (4, .int x4), (5, .int x5), (6, .int x6), (7, .int x7)]) hx hb dX4_group_217 hl (by decide) rfl (fun ls hl => ?_)
    refine lv_aload_n hx hb dX4_group_219 rfl (lv_at hl 1 rfl) ?_
    refine va_get (D := (dC, dI)) (ci := 3) (v := .ref (gm 3)) (C := RX4) (T := TX4) (N := 23) hx hb hts iX4 hown hK hP 0 rfl rfl 8 (by decide) (hts _ (xm m536)) (fun _ h9 => h9) rfl dX4_group_220 ?_
    refine lv_iconst (v := 3) hx hb dX4_group_223 (by decide) ?_
    refine lv_iload hx hb dX4_group_224 (lv_at hl 5 rfl) ?_
    refine lv_imul hx hb dX4_group_226 ?_
    refine lv_iload hx hb dX4_group_227 (lv_at hl 6 rfl) ?_
    refine lv_iadd hx hb dX4_group_229 ?_
    refine lv_iload hx hb dX4_group_230 (lv_at hl 0 rfl) ?_
    obtain ⟨um13, e_um13⟩ : ∃ z, z = st um 3 ((3 * x6) + x7).toNatClampNeg s0 := ⟨_, rfl⟩
    refine va_iast hx hb hK hP hD hS 3 0 rfl rfl (And.left hw) dX4_group_232 (fun H locs hP hD hS => ?_)
    replace hw := And.right hw
    replace hw := hw um13 e_um13
    have hP : va_P (dC, dI) vwCl (w_md gm cA um13) H := by rw [e_um13]; exact hP
    have hD : va_D A (w_md gm cA um13) := by rw [e_um13]; exact hD
    refine lv_aload_n hx hb dX4_group_233 rfl (lv_at hl 1 rfl) ?_
    refine va_get (D := (dC, dI)) (ci := 3) (v := .ref (gm 5)) (C := RX4) (T := TX4) (N := 23) hx hb hts iX4 hown hK hP 0 rfl rfl 10 (by decide) (hts _ (xm m538)) (fun _ h9 => h9) rfl dX4_group_234 ?_
    refine lv_iconst (v := 3) hx hb dX4_group_237 (by decide) ?_
    refine lv_iload hx hb dX4_group_238 (lv_at hl 5 rfl) ?_
    refine lv_imul hx hb dX4_group_240 ?_
    refine lv_iload hx hb dX4_group_241 (lv_at hl 6 rfl) ?_
    refine lv_iadd hx hb dX4_group_243 ?_
    refine lv_iload hx hb dX4_group_244 (lv_at hl 0 rfl) ?_
    obtain ⟨um14, e_um14⟩ : ∃ z, z = st um13 5 ((3 * x6) + x7).toNatClampNeg s0 := ⟨_, rfl⟩
    refine va_iast hx hb hK hP hD hS 5 0 rfl rfl (And.left hw) dX4_group_246 (fun H locs hP hD hS => ?_)
    replace hw := And.right hw
    replace hw := hw um14 e_um14
    have hP : va_P (dC, dI) vwCl (w_md gm cA um14) H := by rw [e_um14]; exact hP
    have hD : va_D A (w_md gm cA um14) := by rw [e_um14]; exact hD
    obtain ⟨v15, e_v15⟩ : ∃ y : Int32, y = x7 + 1 := ⟨_, rfl⟩
    replace hw := hw v15 e_v15
    refine lv_iinc (v := v15) (lv' := [(7, .int v15), (8, .int s0), (0, .ref (gm 0)), (1, .int x1), (4, .int x4), (5, .int x5), (6, .int x6)]) hx hb dX4_group_247 hl (k := 6) rfl (by rw [e_v15]; rfl) (by decide) rfl (fun ls hl => ?_)
    refine lv_goto (tgt := 187) hx hb dX4_group_250 (by decide) ?_
    exact hk _ _ hw _ _ _ hP hD hS (lv_sub hl [2, 3, 4, 5, 6, 0] rfl)
  have L187 : ∀ (KX : (Nat → Nat → Int32) → Prop) (x1 : Int32) (x4 : Int32) (x5 : Int32) (x6 : Int32), (∀ (um : Nat → Nat → Int32), KX um → ∀ (H : Heap) (locs : List Loc) (ls : Array Slot), va_P (dC, dI) vwCl (w_md gm cA um) H → va_D A (w_md gm cA um) → va_S A s.heap H locs → lv_has ls 9 [(0, .ref (gm 0)), (1, .int x1), (4, .int x4), (5, .int x5)] → W p l e (headSpec wX4_group rm_X4_group).room s m args below meth c H locs 0 0 (MQ below (va_Qi (fun r (u : (Nat → Nat → Int32)) => P r u) (xB dC dI cA (fun u : (Nat → Nat → Int32) => w_md gm cA u) A) A) args s 0 0 A) (F0 m 253 ls [])) → ∀ (N : Nat) (um : Nat → Nat → Int32) (x7 : Int32), wp_X4_group_187 KX x1 x4 x5 x6 N um x7 → ∀ (H : Heap) (locs : List Loc) (ls : Array Slot), va_P (dC, dI) vwCl (w_md gm cA um) H → va_D A (w_md gm cA um) → va_S A s.heap H locs → lv_has ls 9 [(0, .ref (gm 0)), (1, .int x1), (4, .int x4), (5, .int x5), (6, .int x6), (7, .int x7)] → W p l e (headSpec wX4_group rm_X4_group).room s m args below meth c H locs 0 0 (MQ below (va_Qi (fun r (u : (Nat → Nat → Int32)) => P r u) (xB dC dI cA (fun u : (Nat → Nat → Int32) => w_md gm cA u) A) A) args s 0 0 A) (F0 m 187 ls []) := by
    intro KX x1 x4 x5 x6 hx2 N187
    induction N187 with
    | zero =>
      intro um x7 hw
      exact False.elim hw
    | succ N187 hk =>
      intro um x7 hw H locs ls hP hD hS hl
      rw [wp_X4_group_187] at hw
      refine lv_iload hx hb dX4_group_187 (lv_at hl 5 rfl) ?_
      refine lv_iconst (v := 3) hx hb dX4_group_189 (by decide) ?_
      refine lv_icmp_ge (tgt := 253) hx hb dX4_group_190 (by decide) (fun c17 => ?_) (fun c17 => ?_)
      · replace hw := And.left hw c17
        exact hx2 _ hw _ _ _ hP hD hS (lv_sub hl [0, 1, 2, 3] rfl)
      · replace hw := And.right hw c17
        refine lv_iload_n hx hb dX4_group_193 rfl (lv_at hl 1 rfl) ?_
        refine lv_if_eq (tgt := 201) hx hb dX4_group_194 (by decide) (fun c16 => ?_) (fun c16 => ?_)
        · replace hw := And.left hw c16
          refine lv_aload_n hx hb dX4_group_201 rfl (lv_at hl 0 rfl) ?_
          refine va_get (D := (dC, dI)) (ci := 3) (v := .ref (gm 5)) (C := RX4) (T := TX4) (N := 23) hx hb hts iX4 hown hK hP 0 rfl rfl 10 (by decide) (hts _ (xm m538)) (fun _ h9 => h9) rfl dX4_group_202 ?_
          refine lv_iconst (v := 3) hx hb dX4_group_205 (by decide) ?_
          refine lv_iload hx hb dX4_group_206 (lv_at hl 4 rfl) ?_
          refine lv_sipush (v := 144) hx hb dX4_group_208 (by decide) ?_
          refine lv_isub hx hb dX4_group_211 ?_
          refine lv_imul hx hb dX4_group_212 ?_
          refine lv_iload hx hb dX4_group_213 (lv_at hl 5 rfl) ?_
          refine lv_iadd hx hb dX4_group_215 ?_
          refine va_iald hx hb hK hP 5 0 rfl rfl (And.left hw) dX4_group_216 ?_
          replace hw := And.right hw
          exact J217 _ _ _ _ _ _ _ _ hw hk _ _ _ hP hD hS (lv_sub hl [0, 1, 2, 3, 4, 5] rfl)
        · replace hw := And.right hw c16
          refine lv_iconst (v := 0) hx hb dX4_group_197 (by decide) ?_
          refine lv_goto (tgt := 217) hx hb dX4_group_198 (by decide) ?_
          exact J217 _ _ _ _ _ _ _ _ hw hk _ _ _ hP hD hS (lv_sub hl [0, 1, 2, 3, 4, 5] rfl)
  have J167 : ∀ (K : (Nat → Nat → Int32) → Int32 → Prop) (um : Nat → Nat → Int32) (x1 : Int32) (x4 : Int32) (x5 : Int32) (x6 : Int32) (s0 : Int32) (s1 : Int32), wp_X4_group_167 K um x1 x4 x5 x6 s0 s1 → (∀ (um : Nat → Nat → Int32) (x5 : Int32), K um x5 → ∀ (H : Heap) (locs : List Loc) (ls : Array Slot), va_P (dC, dI) vwCl (w_md gm cA um) H → va_D A (w_md gm cA um) → va_S A s.heap H locs → lv_has ls 9 [(0, .ref (gm 0)), (1, .int x1), (4, .int x4), (5, .int x5)] → W p l e (headSpec wX4_group rm_X4_group).room s m args below meth c H locs 0 0 (MQ below (va_Qi (fun r (u : (Nat → Nat → Int32)) => P r u) (xB dC dI cA (fun u : (Nat → Nat → Int32) => w_md gm cA u) A) A) args s 0 0 A) (F0 m 124 ls [])) → ∀ (H : Heap) (locs : List Loc) (ls : Array Slot), va_P (dC, dI) vwCl (w_md gm cA um) H → va_D A (w_md gm cA um) → va_S A s.heap H locs → lv_has ls 9 [(0, .ref (gm 0)), (1, .int x1), (4, .int x4), (5, .int x5), (6, .int x6)] → W p l e (headSpec wX4_group rm_X4_group).room s m args below meth c H locs 0 0 (MQ below (va_Qi (fun r (u : (Nat → Nat → Int32)) => P r u) (xB dC dI cA (fun u : (Nat → Nat → Int32) => w_md gm cA u) A) A) args s 0 0 A) (F0 m 167 ls [.int s0, .int s1, .ref (gm 4)]) := by
    intro K um x1 x4 x5 x6 s0 s1 hw hk H locs ls hP hD hS hl
    obtain ⟨um10, e_um10⟩ : ∃ z, z = st um 4 s1.toNatClampNeg s0 := ⟨_, rfl⟩
    refine va_iast hx hb hK hP hD hS 4 0 rfl rfl (And.left hw) dX4_group_167 (fun H locs hP hD hS => ?_)
    replace hw := And.right hw
    replace hw := hw um10 e_um10
    have hP : va_P (dC, dI) vwCl (w_md gm cA um10) H := by rw [e_um10]; exact hP
    have hD : va_D A (w_md gm cA um10) := by rw [e_um10]; exact hD
    refine lv_aload_n hx hb dX4_group_168 rfl (lv_at hl 0 rfl) ?_
    refine va_get (D := (dC, dI)) (ci := 3) (v := .ref (gm 6)) (C := RX4) (T := TX4) (N := 23) hx hb hts iX4 hown hK hP 0 rfl rfl 11 (by decide) (hts _ (xm m539)) (fun _ h9 => h9) rfl dX4_group_169 ?_
    refine lv_iload hx hb dX4_group_172 (lv_at hl 4 rfl) ?_
    refine lv_iconst (v := 0) hx hb dX4_group_174 (by decide) ?_
    obtain ⟨um11, e_um11⟩ : ∃ z, z = st um10 6 x6.toNatClampNeg 0 := ⟨_, rfl⟩
    refine va_iast hx hb hK hP hD hS 6 0 rfl rfl (And.left hw) dX4_group_175 (fun H locs hP hD hS => ?_)
    replace hw := And.right hw
    replace hw := hw um11 e_um11
    have hP : va_P (dC, dI) vwCl (w_md gm cA um11) H := by rw [e_um11]; exact hP
    have hD : va_D A (w_md gm cA um11) := by rw [e_um11]; exact hD
    refine lv_aload_n hx hb dX4_group_176 rfl (lv_at hl 0 rfl) ?_
    refine va_get (D := (dC, dI)) (ci := 3) (v := .ref (gm 7)) (C := RX4) (T := TX4) (N := 23) hx hb hts iX4 hown hK hP 0 rfl rfl 12 (by decide) (hts _ (xm m540)) (fun _ h9 => h9) rfl dX4_group_177 ?_
    refine lv_iload hx hb dX4_group_180 (lv_at hl 4 rfl) ?_
    refine lv_iconst (v := 0) hx hb dX4_group_182 (by decide) ?_
    obtain ⟨um12, e_um12⟩ : ∃ z, z = st um11 7 x6.toNatClampNeg 0 := ⟨_, rfl⟩
    refine va_iast hx hb hK hP hD hS 7 0 rfl rfl (And.left hw) dX4_group_183 (fun H locs hP hD hS => ?_)
    replace hw := And.right hw
    replace hw := hw um12 e_um12
    have hP : va_P (dC, dI) vwCl (w_md gm cA um12) H := by rw [e_um12]; exact hP
    have hD : va_D A (w_md gm cA um12) := by rw [e_um12]; exact hD
    refine lv_iconst (v := 0) hx hb dX4_group_184 (by decide) ?_
    refine lv_istore (lv' := [(7, .int 0), (0, .ref (gm 0)), (1, .int x1), (4, .int x4), (5, .int x5), (6, .int x6)]) hx hb dX4_group_185 hl (by decide) rfl (fun ls hl => ?_)
    obtain ⟨N187, hw⟩ := hw
    refine L187 _ _ _ _ _ (fun um18 hw H locs ls hP hD hS hl => ?_) N187 _ _ hw _ _ _ hP hD hS (lv_sub hl [1, 2, 3, 4, 5, 0] rfl)
    obtain ⟨v19, e_v19⟩ : ∃ y : Int32, y = x5 + 1 := ⟨_, rfl⟩
    replace hw := hw v19 e_v19
    refine lv_iinc (v := v19) (lv' := [(5, .int v19), (0, .ref (gm 0)), (1, .int x1), (4, .int x4)]) hx hb dX4_group_253 hl (k := 3) rfl (by rw [e_v19]; rfl) (by decide) rfl (fun ls hl => ?_)
    refine lv_goto (tgt := 124) hx hb dX4_group_256 (by decide) ?_
    exact hk _ _ hw _ _ _ hP hD hS (lv_sub hl [1, 2, 3, 0] rfl)
  have L124 : ∀ (KX : (Nat → Nat → Int32) → Prop) (x1 : Int32) (x4 : Int32), (∀ (um : Nat → Nat → Int32), KX um → ∀ (H : Heap) (locs : List Loc) (ls : Array Slot), va_P (dC, dI) vwCl (w_md gm cA um) H → va_D A (w_md gm cA um) → va_S A s.heap H locs → lv_has ls 9 [(0, .ref (gm 0))] → W p l e (headSpec wX4_group rm_X4_group).room s m args below meth c H locs 0 0 (MQ below (va_Qi (fun r (u : (Nat → Nat → Int32)) => P r u) (xB dC dI cA (fun u : (Nat → Nat → Int32) => w_md gm cA u) A) A) args s 0 0 A) (F0 m 259 ls [])) → ∀ (N : Nat) (um : Nat → Nat → Int32) (x5 : Int32), wp_X4_group_124 KX x1 x4 N um x5 → ∀ (H : Heap) (locs : List Loc) (ls : Array Slot), va_P (dC, dI) vwCl (w_md gm cA um) H → va_D A (w_md gm cA um) → va_S A s.heap H locs → lv_has ls 9 [(0, .ref (gm 0)), (1, .int x1), (4, .int x4), (5, .int x5)] → W p l e (headSpec wX4_group rm_X4_group).room s m args below meth c H locs 0 0 (MQ below (va_Qi (fun r (u : (Nat → Nat → Int32)) => P r u) (xB dC dI cA (fun u : (Nat → Nat → Int32) => w_md gm cA u) A) A) args s 0 0 A) (F0 m 124 ls []) := by
    intro KX x1 x4 hx2 N124
    induction N124 with
    | zero =>
      intro um x5 hw
      exact False.elim hw
    | succ N124 hk =>
      intro um x5 hw H locs ls hP hD hS hl
      rw [wp_X4_group_124] at hw
      refine lv_iload hx hb dX4_group_124 (lv_at hl 3 rfl) ?_
      refine lv_sipush (v := 144) hx hb dX4_group_126 (by decide) ?_
      refine lv_icmp_ge (tgt := 259) hx hb dX4_group_129 (by decide) (fun c21 => ?_) (fun c21 => ?_)
      · replace hw := And.left hw c21
        exact hx2 _ hw _ _ _ hP hD hS (lv_sub hl [0] rfl)
      · replace hw := And.right hw c21
        refine lv_sipush (v := 144) hx hb dX4_group_132 (by decide) ?_
        refine lv_iload hx hb dX4_group_135 (lv_at hl 2 rfl) ?_
        refine lv_imul hx hb dX4_group_137 ?_
        refine lv_iload hx hb dX4_group_138 (lv_at hl 3 rfl) ?_
        refine lv_iadd hx hb dX4_group_140 ?_
        refine lv_topi (fun v8 e_v8 => ?_)
        replace hw := hw v8 e_v8
        refine lv_istore (lv' := [(6, .int v8), (0, .ref (gm 0)), (1, .int x1), (4, .int x4), (5, .int x5)]) hx hb dX4_group_141 hl (by decide) rfl (fun ls hl => ?_)
        refine lv_aload_n hx hb dX4_group_143 rfl (lv_at hl 1 rfl) ?_
        refine va_get (D := (dC, dI)) (ci := 3) (v := .ref (gm 4)) (C := RX4) (T := TX4) (N := 23) hx hb hts iX4 hown hK hP 0 rfl rfl 9 (by decide) (hts _ (xm m537)) (fun _ h9 => h9) rfl dX4_group_144 ?_
        refine lv_iload hx hb dX4_group_147 (lv_at hl 0 rfl) ?_
        refine lv_iload_n hx hb dX4_group_149 rfl (lv_at hl 2 rfl) ?_
        refine lv_if_eq (tgt := 157) hx hb dX4_group_150 (by decide) (fun c20 => ?_) (fun c20 => ?_)
        · replace hw := And.left hw c20
          refine lv_aload_n hx hb dX4_group_157 rfl (lv_at hl 1 rfl) ?_
          refine lv_iload hx hb dX4_group_158 (lv_at hl 3 rfl) ?_
          refine lv_iconst (v := 1) hx hb dX4_group_160 (by decide) ?_
          refine lv_isub hx hb dX4_group_161 ?_
          refine lv_iload hx hb dX4_group_162 (lv_at hl 4 rfl) ?_
          have hPc : va_P (dC, dI) vwCl (w_md gm cA um) _ := hP
          refine vp_callSi (va_Run.run (va_runV (As := [.int (x4 - 1), .int x5]) (rest := [.int v8, .ref (gm 4)]) ⟨hx, hb, hml, hown, hts⟩ (c_X4_alphaOf l dC dI cA gm um (x4 - 1) x5 _ hw) (gcV 2 hts m618 m615 m617 m8 m24 rfl rfl (by decide +kernel) ⟨Nat.le_of_ble_eq_true rfl, Nat.le_of_ble_eq_true rfl⟩) ⟨xbl1, va_recv hK hPc (ci := 3) (q0 := 0) rfl rfl, fun U hU hW => ⟨rfl, by rw [hU]; exact hPc, va_K.moved hW.alike hK⟩⟩ rfl rfl hl.1 rfl (lv_room (Nat.le_of_ble_eq_true rfl)) dX4_group_164 ⟨Nat.le_of_ble_eq_true rfl, Nat.le_of_ble_eq_true rfl⟩)) (fun r9 hw => ?_)
          exact J167 _ _ _ _ _ _ _ _ hw hk _ _ _ hP hD hS (lv_sub hl [1, 2, 3, 4, 0] rfl)
        · replace hw := And.right hw c20
          refine lv_iconst (v := 0) hx hb dX4_group_153 (by decide) ?_
          refine lv_goto (tgt := 167) hx hb dX4_group_154 (by decide) ?_
          exact J167 _ _ _ _ _ _ _ _ hw hk _ _ _ hP hD hS (lv_sub hl [1, 2, 3, 4, 0] rfl)
  have J45 : ∀ (um : Nat → Nat → Int32) (x1 : Int32) (x2 : Int32) (s0 : Int32), wp_X4_group_45 P um x1 x2 s0 → ∀ (H : Heap) (locs : List Loc) (ls : Array Slot), va_P (dC, dI) vwCl (w_md gm cA um) H → va_D A (w_md gm cA um) → va_S A s.heap H locs → lv_has ls 9 [(0, .ref (gm 0)), (1, .int x1), (2, .int x2)] → W p l e (headSpec wX4_group rm_X4_group).room s m args below meth c H locs 0 0 (MQ below (va_Qi (fun r (u : (Nat → Nat → Int32)) => P r u) (xB dC dI cA (fun u : (Nat → Nat → Int32) => w_md gm cA u) A) A) args s 0 0 A) (F0 m 45 ls [.int s0]) := by
    intro  um x1 x2 s0 hw H locs ls hP hD hS hl
    refine lv_istore_n (lv' := [(3, .int s0), (0, .ref (gm 0)), (1, .int x1), (2, .int x2)]) hx hb dX4_group_45 rfl hl (by decide) rfl (fun ls hl => ?_)
    refine lv_aload_n hx hb dX4_group_46 rfl (lv_at hl 1 rfl) ?_
    refine lv_dup hx hb dX4_group_47 rfl ?_
    refine va_get (D := (dC, dI)) (ci := 3) (v := .int (um 0 4)) (C := RX4) (T := TX4) (N := 23) hx hb hts iX4 hown hK hP 0 rfl rfl 4 (by decide) (hts _ (xm m532)) (fun _ h9 => h9) rfl dX4_group_48 ?_
    refine lv_iconst (v := 1) hx hb dX4_group_51 (by decide) ?_
    refine lv_iadd hx hb dX4_group_52 ?_
    obtain ⟨um2, e_um2⟩ : ∃ z, z = st um 0 4 ((um 0 4) + 1) := ⟨_, rfl⟩
    refine va_put (D := (dC, dI)) (ci := 3) (v := .int ((um 0 4) + 1)) (ty := .int) (C := RX4) (T := TX4) (N := 23) hx hb hts iX4 tyX4 tyX4_ok nmX4 hown hK hP hD hS 0 rfl rfl 4 (by decide) (hts _ (xm m532)) (fun _ h9 => h9) rfl (by decide +kernel) rfl rfl (Nat.le_of_ble_eq_true rfl) dX4_group_53 (fun H locs hP hD hS => ?_)
    replace hw := hw um2 e_um2
    have hP : va_P (dC, dI) vwCl (w_md gm cA um2) H := by rw [e_um2]; exact hP
    have hD : va_D A (w_md gm cA um2) := by rw [e_um2]; exact hD
    refine lv_iload_n hx hb dX4_group_56 rfl (lv_at hl 0 rfl) ?_
    refine lv_if_ne (tgt := 71) hx hb dX4_group_57 (by decide) (fun c24 => ?_) (fun c24 => ?_)
    · replace hw := And.left hw c24
      exact J71 _ hw _ _ _ hP hD hS (lv_sub hl [1] rfl)
    · replace hw := And.right hw c24
      refine lv_aload_n hx hb dX4_group_60 rfl (lv_at hl 1 rfl) ?_
      refine va_get (D := (dC, dI)) (ci := 3) (v := .int (um2 0 4)) (C := RX4) (T := TX4) (N := 23) hx hb hts iX4 hown hK hP 0 rfl rfl 4 (by decide) (hts _ (xm m532)) (fun _ h9 => h9) rfl dX4_group_61 ?_
      refine lv_aload_n hx hb dX4_group_64 rfl (lv_at hl 1 rfl) ?_
      refine va_get (D := (dC, dI)) (ci := 3) (v := .int (um2 0 3)) (C := RX4) (T := TX4) (N := 23) hx hb hts iX4 hown hK hP 0 rfl rfl 3 (by decide) (hts _ (xm m531)) (fun _ h9 => h9) rfl dX4_group_65 ?_
      refine lv_icmp_le (tgt := 86) hx hb dX4_group_68 (by decide) (fun c23 => ?_) (fun c23 => ?_)
      · replace hw := And.left hw c23
        refine lv_aload_n hx hb dX4_group_86 rfl (lv_at hl 1 rfl) ?_
        refine va_get (D := (dC, dI)) (ci := 3) (v := .int (um2 0 5)) (C := RX4) (T := TX4) (N := 23) hx hb hts iX4 hown hK hP 0 rfl rfl 6 (by decide) (hts _ (xm m534)) (fun _ h9 => h9) rfl dX4_group_87 ?_
        refine lv_topi (fun v4 e_v4 => ?_)
        replace hw := hw v4 e_v4
        refine lv_istore (lv' := [(4, .int v4), (3, .int s0), (0, .ref (gm 0)), (1, .int x1), (2, .int x2)]) hx hb dX4_group_90 hl (by decide) rfl (fun ls hl => ?_)
        refine lv_aload_n hx hb dX4_group_92 rfl (lv_at hl 2 rfl) ?_
        refine lv_dup hx hb dX4_group_93 rfl ?_
        refine va_get (D := (dC, dI)) (ci := 3) (v := .int (um2 0 5)) (C := RX4) (T := TX4) (N := 23) hx hb hts iX4 hown hK hP 0 rfl rfl 6 (by decide) (hts _ (xm m534)) (fun _ h9 => h9) rfl dX4_group_94 ?_
        refine lv_iconst (v := 1) hx hb dX4_group_97 (by decide) ?_
        refine lv_iadd hx hb dX4_group_98 ?_
        obtain ⟨um5, e_um5⟩ : ∃ z, z = st um2 0 5 ((um2 0 5) + 1) := ⟨_, rfl⟩
        refine va_put (D := (dC, dI)) (ci := 3) (v := .int ((um2 0 5) + 1)) (ty := .int) (C := RX4) (T := TX4) (N := 23) hx hb hts iX4 tyX4 tyX4_ok nmX4 hown hK hP hD hS 0 rfl rfl 6 (by decide) (hts _ (xm m534)) (fun _ h9 => h9) rfl (by decide +kernel) rfl rfl (Nat.le_of_ble_eq_true rfl) dX4_group_99 (fun H locs hP hD hS => ?_)
        replace hw := hw um5 e_um5
        have hP : va_P (dC, dI) vwCl (w_md gm cA um5) H := by rw [e_um5]; exact hP
        have hD : va_D A (w_md gm cA um5) := by rw [e_um5]; exact hD
        refine lv_aload_n hx hb dX4_group_102 rfl (lv_at hl 2 rfl) ?_
        refine va_get (D := (dC, dI)) (ci := 3) (v := .ref (gm 1)) (C := RX4) (T := TX4) (N := 23) hx hb hts iX4 hown hK hP 0 rfl rfl 5 (by decide) (hts _ (xm m533)) (fun _ h9 => h9) rfl dX4_group_103 ?_
        refine lv_aload_n hx hb dX4_group_106 rfl (lv_at hl 2 rfl) ?_
        refine va_get (D := (dC, dI)) (ci := 3) (v := .int (um5 0 4)) (C := RX4) (T := TX4) (N := 23) hx hb hts iX4 hown hK hP 0 rfl rfl 4 (by decide) (hts _ (xm m532)) (fun _ h9 => h9) rfl dX4_group_107 ?_
        refine lv_iload hx hb dX4_group_110 (lv_at hl 0 rfl) ?_
        obtain ⟨um6, e_um6⟩ : ∃ z, z = st um5 1 (um5 0 4).toNatClampNeg v4 := ⟨_, rfl⟩
        refine va_iast hx hb hK hP hD hS 1 0 rfl rfl (And.left hw) dX4_group_112 (fun H locs hP hD hS => ?_)
        replace hw := And.right hw
        replace hw := hw um6 e_um6
        have hP : va_P (dC, dI) vwCl (w_md gm cA um6) H := by rw [e_um6]; exact hP
        have hD : va_D A (w_md gm cA um6) := by rw [e_um6]; exact hD
        refine lv_aload_n hx hb dX4_group_113 rfl (lv_at hl 2 rfl) ?_
        refine va_get (D := (dC, dI)) (ci := 3) (v := .ref (gm 2)) (C := RX4) (T := TX4) (N := 23) hx hb hts iX4 hown hK hP 0 rfl rfl 7 (by decide) (hts _ (xm m535)) (fun _ h9 => h9) rfl dX4_group_114 ?_
        refine lv_iload hx hb dX4_group_117 (lv_at hl 0 rfl) ?_
        refine lv_iload_n hx hb dX4_group_119 rfl (lv_at hl 4 rfl) ?_
        obtain ⟨um7, e_um7⟩ : ∃ z, z = st um6 2 v4.toNatClampNeg (vp_nar .boolean x2) := ⟨_, rfl⟩
        refine va_zast hx hb hK hP hD hS 2 1 rfl rfl (And.left hw) dX4_group_120 (fun H locs hP hD hS => ?_)
        replace hw := And.right hw
        replace hw := hw um7 e_um7
        have hP : va_P (dC, dI) vwCl (w_md gm cA um7) H := by rw [e_um7]; exact hP
        have hD : va_D A (w_md gm cA um7) := by rw [e_um7]; exact hD
        refine lv_iconst (v := 0) hx hb dX4_group_121 (by decide) ?_
        refine lv_istore (lv' := [(5, .int 0), (4, .int v4), (3, .int s0), (0, .ref (gm 0)), (1, .int x1), (2, .int x2)]) hx hb dX4_group_122 hl (by decide) rfl (fun ls hl => ?_)
        obtain ⟨N124, hw⟩ := hw
        refine L124 _ _ _ (fun um22 hw H locs ls hP hD hS hl => ?_) N124 _ _ hw _ _ _ hP hD hS (lv_sub hl [3, 4, 1, 0] rfl)
        refine lv_aload_n hx hb dX4_group_259 rfl (lv_at hl 0 rfl) ?_
        refine va_get (D := (dC, dI)) (ci := 3) (v := .int (um22 0 4)) (C := RX4) (T := TX4) (N := 23) hx hb hts iX4 hown hK hP 0 rfl rfl 4 (by decide) (hts _ (xm m532)) (fun _ h9 => h9) rfl dX4_group_260 ?_
        exact W.iret hx hb hr (fun t ht hW => ⟨⟨_, um22, rfl, hw, by rw [ht]; exact hP, va_K.moved hW.alike hK, hD⟩, hS.F ht⟩) hS.2.2 dX4_group_263
      · replace hw := And.right hw c23
        exact J71 _ hw _ _ _ hP hD hS (lv_sub hl [1] rfl)
  have J15 : ∀ (um : Nat → Nat → Int32) (x1 : Int32) (x2 : Int32) (s0 : Int32), wp_X4_group_15 P um x1 x2 s0 → ∀ (H : Heap) (locs : List Loc) (ls : Array Slot), va_P (dC, dI) vwCl (w_md gm cA um) H → va_D A (w_md gm cA um) → va_S A s.heap H locs → lv_has ls 9 [(0, .ref (gm 0)), (1, .int x1), (2, .int x2)] → W p l e (headSpec wX4_group rm_X4_group).room s m args below meth c H locs 0 0 (MQ below (va_Qi (fun r (u : (Nat → Nat → Int32)) => P r u) (xB dC dI cA (fun u : (Nat → Nat → Int32) => w_md gm cA u) A) A) args s 0 0 A) (F0 m 15 ls [.int s0, .ref (gm 0)]) := by
    intro  um x1 x2 s0 hw H locs ls hP hD hS hl
    obtain ⟨um1, e_um1⟩ : ∃ z, z = st um 0 0 s0 := ⟨_, rfl⟩
    refine va_put (D := (dC, dI)) (ci := 3) (v := .int s0) (ty := .int) (C := RX4) (T := TX4) (N := 23) hx hb hts iX4 tyX4 tyX4_ok nmX4 hown hK hP hD hS 0 rfl rfl 0 (by decide) (hts _ (xm m528)) (fun _ h9 => h9) rfl (by decide +kernel) rfl rfl (Nat.le_of_ble_eq_true rfl) dX4_group_15 (fun H locs hP hD hS => ?_)
    replace hw := hw um1 e_um1
    have hP : va_P (dC, dI) vwCl (w_md gm cA um1) H := by rw [e_um1]; exact hP
    have hD : va_D A (w_md gm cA um1) := by rw [e_um1]; exact hD
    refine lv_aload_n hx hb dX4_group_18 rfl (lv_at hl 0 rfl) ?_
    refine va_get (D := (dC, dI)) (ci := 3) (v := .int (um1 0 0)) (C := RX4) (T := TX4) (N := 23) hx hb hts iX4 hown hK hP 0 rfl rfl 0 (by decide) (hts _ (xm m528)) (fun _ h9 => h9) rfl dX4_group_19 ?_
    refine lv_if_le (tgt := 27) hx hb dX4_group_22 (by decide) (fun c26 => ?_) (fun c26 => ?_)
    · replace hw := And.left hw c26
      refine lv_aload_n hx hb dX4_group_27 rfl (lv_at hl 0 rfl) ?_
      refine va_get (D := (dC, dI)) (ci := 3) (v := .ref (gm 1)) (C := RX4) (T := TX4) (N := 23) hx hb hts iX4 hown hK hP 0 rfl rfl 5 (by decide) (hts _ (xm m533)) (fun _ h9 => h9) rfl dX4_group_28 ?_
      refine lv_aload_n hx hb dX4_group_31 rfl (lv_at hl 0 rfl) ?_
      refine va_get (D := (dC, dI)) (ci := 3) (v := .int (um1 0 4)) (C := RX4) (T := TX4) (N := 23) hx hb hts iX4 hown hK hP 0 rfl rfl 4 (by decide) (hts _ (xm m532)) (fun _ h9 => h9) rfl dX4_group_32 ?_
      refine va_iald hx hb hK hP 1 0 rfl rfl (And.left hw) dX4_group_35 ?_
      replace hw := And.right hw
      refine lv_iconst (v := (-1)) hx hb dX4_group_36 (by decide) ?_
      refine lv_icmp_ne (tgt := 44) hx hb dX4_group_37 (by decide) (fun c25 => ?_) (fun c25 => ?_)
      · replace hw := And.left hw c25
        refine lv_iconst (v := 0) hx hb dX4_group_44 (by decide) ?_
        exact J45 _ _ _ _ hw _ _ _ hP hD hS (lv_sub hl [0, 1, 2] rfl)
      · replace hw := And.right hw c25
        refine lv_iconst (v := 1) hx hb dX4_group_40 (by decide) ?_
        refine lv_goto (tgt := 45) hx hb dX4_group_41 (by decide) ?_
        exact J45 _ _ _ _ hw _ _ _ hP hD hS (lv_sub hl [0, 1, 2] rfl)
    · replace hw := And.right hw c26
      refine lv_iconst (v := 0) hx hb dX4_group_25 (by decide) ?_
      exact W.iret hx hb hr (fun t ht hW => ⟨⟨_, um1, rfl, hw, by rw [ht]; exact hP, va_K.moved hW.alike hK, hD⟩, hS.F ht⟩) hS.2.2 dX4_group_26
  have hl := lv_entry ([.ref (gm 0), .int p0, .int p1]) (n := 9) (Nat.le_of_ble_eq_true rfl)
  rw [show entryFrame m args 9 = entryFrame m (([.ref (gm 0), .int p0, .int p1] : List Value).toArray) 9 from by rw [hargs], lg_entry_eq]
  generalize (lg_sl ([.ref (gm 0), .int p0, .int p1]) ++ List.replicate (9 - (lg_sl ([.ref (gm 0), .int p0, .int p1])).length) Slot.unset).toArray = ls at hl ⊢
  have hl : lv_has ls 9 [(0, .ref (gm 0)), (1, .int p0), (2, .int p1)] := hl
  have hP : va_P (dC, dI) vwCl (w_md gm cA um) s.heap := hP
  refine lv_aload_n hx hb dX4_group_0 rfl (lv_at hl 0 rfl) ?_
  refine lv_aload_n hx hb dX4_group_1 rfl (lv_at hl 0 rfl) ?_
  refine va_get (D := (dC, dI)) (ci := 3) (v := .int (um 0 4)) (C := RX4) (T := TX4) (N := 23) hx hb hts iX4 hown hK hP 0 rfl rfl 4 (by decide) (hts _ (xm m532)) (fun _ h9 => h9) rfl dX4_group_2 ?_
  refine lv_bipush (v := 40) hx hb dX4_group_5 (by decide) ?_
  refine lv_icmp_ne (tgt := 14) hx hb dX4_group_7 (by decide) (fun c27 => ?_) (fun c27 => ?_)
  · replace hw := And.left hw c27
    refine lv_iconst (v := 0) hx hb dX4_group_14 (by decide) ?_
    exact J15 _ _ _ _ hw _ _ _ hP hD hS (lv_sub hl [0, 1, 2] rfl)
  · replace hw := And.right hw c27
    refine lv_iconst (v := 1) hx hb dX4_group_10 (by decide) ?_
    refine lv_goto (tgt := 15) hx hb dX4_group_11 (by decide) ?_
    exact J15 _ _ _ _ hw _ _ _ hP hD hS (lv_sub hl [0, 1, 2] rfl)
abbrev wX4_leave : List Cond := Cond.code yX4_leave cX4_leave 2 (some .int) :: gG
def wp_X4_leave (um : Nat → Nat → Int32) (P : Int32 → (Nat → Nat → Int32) → Prop) : Prop :=
  (vp_in (um 0 4) 41 ∧ ∀ v1 : Int32, v1 = (um 1 (um 0 4).toNatClampNeg) → ∀ um2 : Nat → Nat → Int32, um2 = st um 0 4 ((um 0 4) - 1) → ((¬ v1 = (-1) → ∀ um3 : Nat → Nat → Int32, um3 = st um2 0 5 ((um2 0 5) - 1) → P v1 um3) ∧
  (v1 = (-1) → ∀ um4 : Nat → Nat → Int32, um4 = st um2 0 5 (um2 0 5) → P v1 um4)))
abbrev rm_X4_leave : Room := { frames := 0, cells := 0, slots := 0, locals := 0 }
set_option maxHeartbeats 4000000 in
set_option maxRecDepth 100000 in
theorem c_X4_leave (l : Launch) (dC : Nat → ClassId) (dI : Nat → Nat → Nat) (cA : Nat → ClassId) (gm : Nat → Nat) (sz : Nat) (um : Nat → Nat → Int32) (P : Int32 → (Nat → Nat → Int32) → Prop) (hw : wp_X4_leave um P) : Met l yX4_leave wX4_leave rm_X4_leave (xP2 dC dI cA (w_md gm cA um) sz [.ref (gm 0)]) (va_Qi (fun r (u : (Nat → Nat → Int32)) => P r u) (xB dC dI cA (fun u : (Nat → Nat → Int32) => w_md gm cA u) (va_A (w_md gm cA um) sz)) (va_A (w_md gm cA um) sz)) 0 0 (va_A (w_md gm cA um) sz) := by
  refine Met.ofW (cc := cX4_leave) (maxL := 2) (ret := (some .int)) (by decide) rfl ?_
  intro p e s m args below meth c s₁ B hml hv
  obtain ⟨hargs, hsz, hP, hK, hD0⟩ := hv
  have hx := B.exec
  have hb := B.bytes
  have hr := B.returns
  have hts := atoms_spec (ws := wX4_leave) B.pre
  have hown : s.vm.findClass RX4 = some m.cls := findClass_of_methodNamed B.named
  have hlocks := B.notSynchronized
  subst hsz
  have hD := hD0.self (sz := s.heap.size)
  generalize hAe : va_A (w_md gm cA um) s.heap.size = A at hD ⊢
  have hA : ∀ q : Nat, s.heap.size ≤ q → A q := fun q h => by rw [← hAe]; exact Or.inr h
  have hS : va_S A s.heap s.heap [] := va_S.rf
  clear hAe hD0
  have hl := lv_entry ([.ref (gm 0)]) (n := 2) (Nat.le_of_ble_eq_true rfl)
  rw [show entryFrame m args 2 = entryFrame m (([.ref (gm 0)] : List Value).toArray) 2 from by rw [hargs], lg_entry_eq]
  generalize (lg_sl ([.ref (gm 0)]) ++ List.replicate (2 - (lg_sl ([.ref (gm 0)])).length) Slot.unset).toArray = ls at hl ⊢
  have hl : lv_has ls 2 [(0, .ref (gm 0))] := hl
  have hP : va_P (dC, dI) vwCl (w_md gm cA um) s.heap := hP
  refine lv_aload_n hx hb dX4_leave_0 rfl (lv_at hl 0 rfl) ?_
  refine va_get (D := (dC, dI)) (ci := 3) (v := .ref (gm 1)) (C := RX4) (T := TX4) (N := 23) hx hb hts iX4 hown hK hP 0 rfl rfl 5 (by decide) (hts _ (xm m533)) (fun _ h9 => h9) rfl dX4_leave_1 ?_
  refine lv_aload_n hx hb dX4_leave_4 rfl (lv_at hl 0 rfl) ?_
  refine va_get (D := (dC, dI)) (ci := 3) (v := .int (um 0 4)) (C := RX4) (T := TX4) (N := 23) hx hb hts iX4 hown hK hP 0 rfl rfl 4 (by decide) (hts _ (xm m532)) (fun _ h9 => h9) rfl dX4_leave_5 ?_
  refine va_iald hx hb hK hP 1 0 rfl rfl (And.left hw) dX4_leave_8 ?_
  replace hw := And.right hw
  refine lv_topi (fun v1 e_v1 => ?_)
  replace hw := hw v1 e_v1
  refine lv_istore_n (lv' := [(1, .int v1), (0, .ref (gm 0))]) hx hb dX4_leave_9 rfl hl (by decide) rfl (fun ls hl => ?_)
  refine lv_aload_n hx hb dX4_leave_10 rfl (lv_at hl 1 rfl) ?_
  refine lv_dup hx hb dX4_leave_11 rfl ?_
  refine va_get (D := (dC, dI)) (ci := 3) (v := .int (um 0 4)) (C := RX4) (T := TX4) (N := 23) hx hb hts iX4 hown hK hP 0 rfl rfl 4 (by decide) (hts _ (xm m532)) (fun _ h9 => h9) rfl dX4_leave_12 ?_
  refine lv_iconst (v := 1) hx hb dX4_leave_15 (by decide) ?_
  refine lv_isub hx hb dX4_leave_16 ?_
  obtain ⟨um2, e_um2⟩ : ∃ z, z = st um 0 4 ((um 0 4) - 1) := ⟨_, rfl⟩
  refine va_put (D := (dC, dI)) (ci := 3) (v := .int ((um 0 4) - 1)) (ty := .int) (C := RX4) (T := TX4) (N := 23) hx hb hts iX4 tyX4 tyX4_ok nmX4 hown hK hP hD hS 0 rfl rfl 4 (by decide) (hts _ (xm m532)) (fun _ h9 => h9) rfl (by decide +kernel) rfl rfl (Nat.le_of_ble_eq_true rfl) dX4_leave_17 (fun H locs hP hD hS => ?_)
  replace hw := hw um2 e_um2
  have hP : va_P (dC, dI) vwCl (w_md gm cA um2) H := by rw [e_um2]; exact hP
  have hD : va_D A (w_md gm cA um2) := by rw [e_um2]; exact hD
  refine lv_aload_n hx hb dX4_leave_20 rfl (lv_at hl 1 rfl) ?_
  refine lv_iload_n hx hb dX4_leave_21 rfl (lv_at hl 0 rfl) ?_
  refine lv_iconst (v := (-1)) hx hb dX4_leave_22 (by decide) ?_
  refine lv_icmp_ne (tgt := 33) hx hb dX4_leave_23 (by decide) (fun c5 => ?_) (fun c5 => ?_)
  · replace hw := And.left hw c5
    refine lv_aload_n hx hb dX4_leave_33 rfl (lv_at hl 1 rfl) ?_
    refine va_get (D := (dC, dI)) (ci := 3) (v := .int (um2 0 5)) (C := RX4) (T := TX4) (N := 23) hx hb hts iX4 hown hK hP 0 rfl rfl 6 (by decide) (hts _ (xm m534)) (fun _ h9 => h9) rfl dX4_leave_34 ?_
    refine lv_iconst (v := 1) hx hb dX4_leave_37 (by decide) ?_
    refine lv_isub hx hb dX4_leave_38 ?_
    obtain ⟨um3, e_um3⟩ : ∃ z, z = st um2 0 5 ((um2 0 5) - 1) := ⟨_, rfl⟩
    refine va_put (D := (dC, dI)) (ci := 3) (v := .int ((um2 0 5) - 1)) (ty := .int) (C := RX4) (T := TX4) (N := 23) hx hb hts iX4 tyX4 tyX4_ok nmX4 hown hK hP hD hS 0 rfl rfl 6 (by decide) (hts _ (xm m534)) (fun _ h9 => h9) rfl (by decide +kernel) rfl rfl (Nat.le_of_ble_eq_true rfl) dX4_leave_39 (fun H locs hP hD hS => ?_)
    replace hw := hw um3 e_um3
    have hP : va_P (dC, dI) vwCl (w_md gm cA um3) H := by rw [e_um3]; exact hP
    have hD : va_D A (w_md gm cA um3) := by rw [e_um3]; exact hD
    refine lv_iload_n hx hb dX4_leave_42 rfl (lv_at hl 0 rfl) ?_
    exact W.iret hx hb hr (fun t ht hW => ⟨⟨_, um3, rfl, hw, by rw [ht]; exact hP, va_K.moved hW.alike hK, hD⟩, hS.F ht⟩) hS.2.2 dX4_leave_43
  · replace hw := And.right hw c5
    refine lv_aload_n hx hb dX4_leave_26 rfl (lv_at hl 1 rfl) ?_
    refine va_get (D := (dC, dI)) (ci := 3) (v := .int (um2 0 5)) (C := RX4) (T := TX4) (N := 23) hx hb hts iX4 hown hK hP 0 rfl rfl 6 (by decide) (hts _ (xm m534)) (fun _ h9 => h9) rfl dX4_leave_27 ?_
    refine lv_goto (tgt := 39) hx hb dX4_leave_30 (by decide) ?_
    obtain ⟨um4, e_um4⟩ : ∃ z, z = st um2 0 5 (um2 0 5) := ⟨_, rfl⟩
    refine va_put (D := (dC, dI)) (ci := 3) (v := .int (um2 0 5)) (ty := .int) (C := RX4) (T := TX4) (N := 23) hx hb hts iX4 tyX4 tyX4_ok nmX4 hown hK hP hD hS 0 rfl rfl 6 (by decide) (hts _ (xm m534)) (fun _ h9 => h9) rfl (by decide +kernel) rfl rfl (Nat.le_of_ble_eq_true rfl) dX4_leave_39 (fun H locs hP hD hS => ?_)
    replace hw := hw um4 e_um4
    have hP : va_P (dC, dI) vwCl (w_md gm cA um4) H := by rw [e_um4]; exact hP
    have hD : va_D A (w_md gm cA um4) := by rw [e_um4]; exact hD
    refine lv_iload_n hx hb dX4_leave_42 rfl (lv_at hl 0 rfl) ?_
    exact W.iret hx hb hr (fun t ht hW => ⟨⟨_, um4, rfl, hw, by rw [ht]; exact hP, va_K.moved hW.alike hK, hD⟩, hS.F ht⟩) hS.2.2 dX4_leave_43
abbrev wX4_end : List Cond := Cond.code yX4_end cX4_end 9 (some .int) :: gG
def wp_X4_end_175 (K : (Nat → Nat → Int32) → Int32 → Prop) (um : Nat → Nat → Int32) (x1 : Int32) (x2 : Int32) (x3 : Int32) (x4 : Int32) (x5 : Int32) (x6 : Int32) (s0 : Int32) (s2 : Int32) (s3 : Int32) (s4 : Int32) (s5 : Int32) : Prop :=
  wp_X4_leaves um s0 x6 (fun r10 => wp_X4_put um s5 s4 s3 s2 r10 (fun (um12 : Nat → Nat → Int32) => ∀ v13 : Int32, v13 = x5 + 1 → K um12 v13))
def wp_X4_end_91 (KX : (Nat → Nat → Int32) → Prop) (x1 : Int32) (x2 : Int32) (x3 : Int32) (x4 : Int32) : Nat → (Nat → Nat → Int32) → Int32 → Prop
  | 0, _, _ => False
  | N91 + 1, um, x5 =>
    (((um 0 1) ≤ x5 → KX um) ∧
  (¬ (um 0 1) ≤ x5 → wp_X4_pointAt um x5 x4 (fun r5 => (vp_in ((144 * x3) + r5) 1152 ∧ ∀ v6 : Int32, v6 = (um 7 ((144 * x3) + r5).toNatClampNeg) → (vp_in ((144 * x3) + r5) 1152 ∧ wp_X4_mul (um 6 ((144 * x3) + r5).toNatClampNeg) x2 (fun r7 => wp_X4_result um x3 r5 (fun (um9 : Nat → Nat → Int32) => ((r7 ≤ v6 → wp_X4_end_175 (wp_X4_end_91 KX x1 x2 x3 x4 N91) um9 x1 x2 x3 x4 x5 r5 r7 v6 x1 r5 (x3 - 1)) ∧
  (¬ r7 ≤ v6 → wp_X4_end_175 (wp_X4_end_91 KX x1 x2 x3 x4 N91) um9 x1 x2 x3 x4 x5 r5 v6 v6 x1 r5 (x3 - 1))))))))))
def wp_X4_end_74 (KX : (Nat → Nat → Int32) → Prop) (x1 : Int32) (x2 : Int32) (x3 : Int32) : Nat → (Nat → Nat → Int32) → Int32 → Prop
  | 0, _, _ => False
  | N74 + 1, um, x4 =>
    (((um 0 2) ≤ x4 → KX um) ∧
  (¬ (um 0 2) ≤ x4 → ((x3 = (-1) → KX um) ∧
  (¬ x3 = (-1) → (∃ N91, wp_X4_end_91 (fun (um16 : Nat → Nat → Int32) => ∀ v17 : Int32, v17 = x4 + 1 → wp_X4_end_74 KX x1 x2 x3 N74 um16 v17) x1 x2 x3 x4 N91 um 0)))))
def wp_X4_end_67 (P : Int32 → (Nat → Nat → Int32) → Prop) (um : Nat → Nat → Int32) (x1 : Int32) (x2 : Int32) (x3 : Int32) (s0 : Int32) (s1 : Int32) : Prop :=
  ∀ um4 : Nat → Nat → Int32, um4 = st um 0 7 (s1 + s0) → (∃ N74, wp_X4_end_74 (fun (um20 : Nat → Nat → Int32) => P (um20 0 4) um20) x1 x2 x3 N74 um4 0)
def wp_X4_end_35 (P : Int32 → (Nat → Nat → Int32) → Prop) (um : Nat → Nat → Int32) (x1 : Int32) (x2 : Int32) (s0 : Int32) : Prop :=
  ∀ um1 : Nat → Nat → Int32, um1 = st um 0 0 s0 → (((um1 0 0) ≤ 0 → wp_X4_leave um1 (fun (r2 : Int32) (um3 : Nat → Nat → Int32) => ((¬ r2 = (-1) → wp_X4_end_67 P um3 x1 x2 r2 1 (um3 0 7)) ∧
  (r2 = (-1) → wp_X4_end_67 P um3 x1 x2 r2 0 (um3 0 7))))) ∧
  (¬ (um1 0 0) ≤ 0 → P 0 um1))
def wp_X4_end_30 (P : Int32 → (Nat → Nat → Int32) → Prop) (um : Nat → Nat → Int32) (x1 : Int32) (x2 : Int32) : Prop :=
  wp_X4_end_35 P um x1 x2 2
def wp_X4_end (um : Nat → Nat → Int32) (p0 : Int32) (p1 : Int32) (P : Int32 → (Nat → Nat → Int32) → Prop) : Prop :=
  ((¬ (um 0 4) = 1 → ((p0 < 0 → wp_X4_end_30 P um p0 p1) ∧
  (¬ p0 < 0 → ((15 < p0 → wp_X4_end_30 P um p0 p1) ∧
  (¬ 15 < p0 → wp_X4_isByte p1 (fun r23 => ((¬ r23 = 0 → wp_X4_end_35 P um p0 p1 0) ∧
  (r23 = 0 → wp_X4_end_30 P um p0 p1)))))))) ∧
  ((um 0 4) = 1 → wp_X4_end_35 P um p0 p1 1))
abbrev rm_X4_end : Room := { frames := 5, cells := 0, slots := 0, locals := 125 }
set_option maxHeartbeats 4000000 in
set_option maxRecDepth 100000 in
theorem c_X4_end (l : Launch) (dC : Nat → ClassId) (dI : Nat → Nat → Nat) (cA : Nat → ClassId) (gm : Nat → Nat) (sz : Nat) (um : Nat → Nat → Int32) (p0 : Int32) (p1 : Int32) (P : Int32 → (Nat → Nat → Int32) → Prop) (hw : wp_X4_end um p0 p1 P) : Met l yX4_end wX4_end rm_X4_end (xP2 dC dI cA (w_md gm cA um) sz [.ref (gm 0), .int p0, .int p1]) (va_Qi (fun r (u : (Nat → Nat → Int32)) => P r u) (xB dC dI cA (fun u : (Nat → Nat → Int32) => w_md gm cA u) (va_A (w_md gm cA um) sz)) (va_A (w_md gm cA um) sz)) 0 0 (va_A (w_md gm cA um) sz) := by
  refine Met.ofW (cc := cX4_end) (maxL := 9) (ret := (some .int)) (by decide) rfl ?_
  intro p e s m args below meth c s₁ B hml hv
  obtain ⟨hargs, hsz, hP, hK, hD0⟩ := hv
  have hx := B.exec
  have hb := B.bytes
  have hr := B.returns
  have hts := atoms_spec (ws := wX4_end) B.pre
  have hown : s.vm.findClass RX4 = some m.cls := findClass_of_methodNamed B.named
  have hlocks := B.notSynchronized
  subst hsz
  have hD := hD0.self (sz := s.heap.size)
  generalize hAe : va_A (w_md gm cA um) s.heap.size = A at hD ⊢
  have hA : ∀ q : Nat, s.heap.size ≤ q → A q := fun q h => by rw [← hAe]; exact Or.inr h
  have hS : va_S A s.heap s.heap [] := va_S.rf
  clear hAe hD0
  have J175 : ∀ (K : (Nat → Nat → Int32) → Int32 → Prop) (um : Nat → Nat → Int32) (x1 : Int32) (x2 : Int32) (x3 : Int32) (x4 : Int32) (x5 : Int32) (x6 : Int32) (s0 : Int32) (s2 : Int32) (s3 : Int32) (s4 : Int32) (s5 : Int32), wp_X4_end_175 K um x1 x2 x3 x4 x5 x6 s0 s2 s3 s4 s5 → (∀ (um : Nat → Nat → Int32) (x5 : Int32), K um x5 → ∀ (H : Heap) (locs : List Loc) (ls : Array Slot), va_P (dC, dI) vwCl (w_md gm cA um) H → va_D A (w_md gm cA um) → va_S A s.heap H locs → lv_has ls 9 [(0, .ref (gm 0)), (1, .int x1), (2, .int x2), (3, .int x3), (4, .int x4), (5, .int x5)] → W p l e (headSpec wX4_end rm_X4_end).room s m args below meth c H locs 0 0 (MQ below (va_Qi (fun r (u : (Nat → Nat → Int32)) => P r u) (xB dC dI cA (fun u : (Nat → Nat → Int32) => w_md gm cA u) A) A) args s 0 0 A) (F0 m 91 ls [])) → ∀ (H : Heap) (locs : List Loc) (ls : Array Slot), va_P (dC, dI) vwCl (w_md gm cA um) H → va_D A (w_md gm cA um) → va_S A s.heap H locs → lv_has ls 9 [(0, .ref (gm 0)), (1, .int x1), (2, .int x2), (3, .int x3), (4, .int x4), (5, .int x5), (6, .int x6)] → W p l e (headSpec wX4_end rm_X4_end).room s m args below meth c H locs 0 0 (MQ below (va_Qi (fun r (u : (Nat → Nat → Int32)) => P r u) (xB dC dI cA (fun u : (Nat → Nat → Int32) => w_md gm cA u) A) A) args s 0 0 A) (F0 m 175 ls [.int s0, .ref (gm 0), .int s2, .int s3, .int s4, .int s5, .ref (gm 0)]) := by
    intro K um x1 x2 x3 x4 x5 x6 s0 s2 s3 s4 s5 hw hk H locs ls hP hD hS hl
    refine lv_iload hx hb dX4_end_175 (lv_at hl 6 rfl) ?_
    have hPc : va_P (dC, dI) vwCl (w_md gm cA um) _ := hP
    refine vp_callSi (va_Run.run (va_runV (As := [.int s0, .int x6]) (rest := [.int s2, .int s3, .int s4, .int s5, .ref (gm 0)]) ⟨hx, hb, hml, hown, hts⟩ (c_X4_leaves l dC dI cA gm um s0 x6 _ hw) (gcV 2 hts m644 m641 m643 m12 m24 rfl rfl (by decide +kernel) ⟨Nat.le_of_ble_eq_true rfl, Nat.le_of_ble_eq_true rfl⟩) ⟨xbl1, va_recv hK hPc (ci := 3) (q0 := 0) rfl rfl, fun U hU hW => ⟨rfl, by rw [hU]; exact hPc, va_K.moved hW.alike hK⟩⟩ rfl rfl hl.1 rfl (lv_room (Nat.le_of_ble_eq_true rfl)) dX4_end_177 ⟨Nat.le_of_ble_eq_true rfl, Nat.le_of_ble_eq_true rfl⟩)) (fun r10 hw => ?_)
    have hPc : va_P (dC, dI) vwCl (w_md gm cA um) _ := hP
    have hDc := hD.sub (ws' := (w_md gm cA um)) [0, 1, 2, 3, 4, 5, 6, 7, 8, 9, 10, 11, 12, 13, 14, 15] (by decide) rfl
    have hFc := va_free (wc := (w_md gm cA um)) hD hS hA [0, 1, 2, 3, 4, 5, 6, 7, 8, 9, 10, 11, 12, 13, 14, 15] rfl
    refine va_callv (va_runV (As := [.int s5, .int s4, .int s3, .int s2, .int r10]) (rest := []) ⟨hx, hb, hml, hown, hts⟩ (c_X4_put l dC dI cA gm _ um s5 s4 s3 s2 r10 _ hw) (gcV 5 hts m648 m645 m647 m13 m24 rfl rfl (by decide +kernel) ⟨Nat.le_of_ble_eq_true rfl, Nat.le_of_ble_eq_true rfl⟩) ⟨xbl2, va_recv hK hPc (ci := 3) (q0 := 0) rfl rfl, fun U hU hW => ⟨rfl, by rw [hU], by rw [hU]; exact hPc, va_K.moved hW.alike hK, hDc.weaken (fun _ _ _ _ => trivial)⟩⟩ rfl rfl hl.1 rfl (lv_room (Nat.le_of_ble_eq_true rfl)) dX4_end_180 ⟨Nat.le_of_ble_eq_true rfl, Nat.le_of_ble_eq_true rfl⟩) hS (fun q _ h => hFc q h) hFc (fun u t H1 locs ht hvm hw hB hz1 hk1 hS => ?_)
    obtain ⟨um12, e_u⟩ : ∃ z, z = u := ⟨_, rfl⟩
    subst e_u
    obtain ⟨hP1, hK1, hD1⟩ := hB
    rw [ht] at hP1
    have hP : va_P (dC, dI) vwCl (w_md gm cA um12) H1 := hP1
    have hD : va_D A (w_md gm cA um12) := hD1.weaken (fun k q hk h => hFc q.1 h)
    clear hP1 hD1 hK1 hk1 hz1 hFc hDc hPc ht
    generalize H1 = H at hP hS ⊢
    obtain ⟨v13, e_v13⟩ : ∃ y : Int32, y = x5 + 1 := ⟨_, rfl⟩
    replace hw := hw v13 e_v13
    refine lv_iinc (v := v13) (lv' := [(5, .int v13), (0, .ref (gm 0)), (1, .int x1), (2, .int x2), (3, .int x3), (4, .int x4), (6, .int x6)]) hx hb dX4_end_183 hl (k := 5) rfl (by rw [e_v13]; rfl) (by decide) rfl (fun ls hl => ?_)
    refine lv_goto (tgt := 91) hx hb dX4_end_186 (by decide) ?_
    exact hk _ _ hw _ _ _ hP hD hS (lv_sub hl [1, 2, 3, 4, 5, 0] rfl)
  have L91 : ∀ (KX : (Nat → Nat → Int32) → Prop) (x1 : Int32) (x2 : Int32) (x3 : Int32) (x4 : Int32), (∀ (um : Nat → Nat → Int32), KX um → ∀ (H : Heap) (locs : List Loc) (ls : Array Slot), va_P (dC, dI) vwCl (w_md gm cA um) H → va_D A (w_md gm cA um) → va_S A s.heap H locs → lv_has ls 9 [(0, .ref (gm 0)), (1, .int x1), (2, .int x2), (3, .int x3), (4, .int x4)] → W p l e (headSpec wX4_end rm_X4_end).room s m args below meth c H locs 0 0 (MQ below (va_Qi (fun r (u : (Nat → Nat → Int32)) => P r u) (xB dC dI cA (fun u : (Nat → Nat → Int32) => w_md gm cA u) A) A) args s 0 0 A) (F0 m 189 ls [])) → ∀ (N : Nat) (um : Nat → Nat → Int32) (x5 : Int32), wp_X4_end_91 KX x1 x2 x3 x4 N um x5 → ∀ (H : Heap) (locs : List Loc) (ls : Array Slot), va_P (dC, dI) vwCl (w_md gm cA um) H → va_D A (w_md gm cA um) → va_S A s.heap H locs → lv_has ls 9 [(0, .ref (gm 0)), (1, .int x1), (2, .int x2), (3, .int x3), (4, .int x4), (5, .int x5)] → W p l e (headSpec wX4_end rm_X4_end).room s m args below meth c H locs 0 0 (MQ below (va_Qi (fun r (u : (Nat → Nat → Int32)) => P r u) (xB dC dI cA (fun u : (Nat → Nat → Int32) => w_md gm cA u) A) A) args s 0 0 A) (F0 m 91 ls []) := by
    intro KX x1 x2 x3 x4 hx2 N91
    induction N91 with
    | zero =>
      intro um x5 hw
      exact False.elim hw
    | succ N91 hk =>
      intro um x5 hw H locs ls hP hD hS hl
      rw [wp_X4_end_91] at hw
      refine lv_iload hx hb dX4_end_91 (lv_at hl 5 rfl) ?_
      refine lv_aload_n hx hb dX4_end_93 rfl (lv_at hl 0 rfl) ?_
      refine va_get (D := (dC, dI)) (ci := 3) (v := .int (um 0 1)) (C := RX4) (T := TX4) (N := 23) hx hb hts iX4 hown hK hP 0 rfl rfl 1 (by decide) (hts _ (xm m529)) (fun _ h9 => h9) rfl dX4_end_94 ?_
      refine lv_icmp_ge (tgt := 189) hx hb dX4_end_97 (by decide) (fun c15 => ?_) (fun c15 => ?_)
      · replace hw := And.left hw c15
        exact hx2 _ hw _ _ _ hP hD hS (lv_sub hl [0, 1, 2, 3, 4] rfl)
      · replace hw := And.right hw c15
        refine lv_aload_n hx hb dX4_end_100 rfl (lv_at hl 0 rfl) ?_
        refine lv_iload hx hb dX4_end_101 (lv_at hl 5 rfl) ?_
        refine lv_iload hx hb dX4_end_103 (lv_at hl 4 rfl) ?_
        have hPc : va_P (dC, dI) vwCl (w_md gm cA um) _ := hP
        refine vp_callSi (va_Run.run (va_runV (As := [.int x5, .int x4]) (rest := []) ⟨hx, hb, hml, hown, hts⟩ (c_X4_pointAt l dC dI cA gm um x5 x4 _ hw) (gcV 2 hts m636 m633 m635 m10 m24 rfl rfl (by decide +kernel) ⟨Nat.le_of_ble_eq_true rfl, Nat.le_of_ble_eq_true rfl⟩) ⟨xbl1, va_recv hK hPc (ci := 3) (q0 := 0) rfl rfl, fun U hU hW => ⟨rfl, by rw [hU]; exact hPc, va_K.moved hW.alike hK⟩⟩ rfl rfl hl.1 rfl (lv_room (Nat.le_of_ble_eq_true rfl)) dX4_end_105 ⟨Nat.le_of_ble_eq_true rfl, Nat.le_of_ble_eq_true rfl⟩)) (fun r5 hw => ?_)
        refine lv_istore (lv' := [(6, .int r5), (0, .ref (gm 0)), (1, .int x1), (2, .int x2), (3, .int x3), (4, .int x4), (5, .int x5)]) hx hb dX4_end_108 hl (by decide) rfl (fun ls hl => ?_)
        refine lv_aload_n hx hb dX4_end_110 rfl (lv_at hl 1 rfl) ?_
        refine va_get (D := (dC, dI)) (ci := 3) (v := .ref (gm 7)) (C := RX4) (T := TX4) (N := 23) hx hb hts iX4 hown hK hP 0 rfl rfl 12 (by decide) (hts _ (xm m540)) (fun _ h9 => h9) rfl dX4_end_111 ?_
        refine lv_sipush (v := 144) hx hb dX4_end_114 (by decide) ?_
        refine lv_iload_n hx hb dX4_end_117 rfl (lv_at hl 4 rfl) ?_
        refine lv_imul hx hb dX4_end_118 ?_
        refine lv_iload hx hb dX4_end_119 (lv_at hl 0 rfl) ?_
        refine lv_iadd hx hb dX4_end_121 ?_
        refine va_iald hx hb hK hP 7 0 rfl rfl (And.left hw) dX4_end_122 ?_
        replace hw := And.right hw
        refine lv_topi (fun v6 e_v6 => ?_)
        replace hw := hw v6 e_v6
        refine lv_istore (lv' := [(7, .int v6), (6, .int r5), (0, .ref (gm 0)), (1, .int x1), (2, .int x2), (3, .int x3), (4, .int x4), (5, .int x5)]) hx hb dX4_end_123 hl (by decide) rfl (fun ls hl => ?_)
        refine lv_aload_n hx hb dX4_end_125 rfl (lv_at hl 2 rfl) ?_
        refine va_get (D := (dC, dI)) (ci := 3) (v := .ref (gm 6)) (C := RX4) (T := TX4) (N := 23) hx hb hts iX4 hown hK hP 0 rfl rfl 11 (by decide) (hts _ (xm m539)) (fun _ h9 => h9) rfl dX4_end_126 ?_
        refine lv_sipush (v := 144) hx hb dX4_end_129 (by decide) ?_
        refine lv_iload_n hx hb dX4_end_132 rfl (lv_at hl 5 rfl) ?_
        refine lv_imul hx hb dX4_end_133 ?_
        refine lv_iload hx hb dX4_end_134 (lv_at hl 1 rfl) ?_
        refine lv_iadd hx hb dX4_end_136 ?_
        refine va_iald hx hb hK hP 6 0 rfl rfl (And.left hw) dX4_end_137 ?_
        replace hw := And.right hw
        refine lv_iload_n hx hb dX4_end_138 rfl (lv_at hl 4 rfl) ?_
        refine vp_callSi (va_Run.run (va_runS (As := [.int (um 6 ((144 * x3) + r5).toNatClampNeg), .int x2]) (rest := []) ⟨hx, hb, hml, hown, hts⟩ (c_X4_mul l (um 6 ((144 * x3) + r5).toNatClampNeg) x2 _ hw) (gcS 2 hts m621 m619 m620 m24 rfl rfl (by decide +kernel) ⟨Nat.le_of_ble_eq_true rfl, Nat.le_of_ble_eq_true rfl⟩) ⟨xbl0, fun U hU hW => ⟨rfl, trivial⟩⟩ rfl rfl hl.1 rfl (lv_room (Nat.le_of_ble_eq_true rfl)) dX4_end_139 ⟨Nat.le_of_ble_eq_true rfl, Nat.le_of_ble_eq_true rfl⟩)) (fun r7 hw => ?_)
        refine lv_istore (lv' := [(8, .int r7), (7, .int v6), (6, .int r5), (0, .ref (gm 0)), (1, .int x1), (2, .int x2), (3, .int x3), (4, .int x4), (5, .int x5)]) hx hb dX4_end_142 hl (by decide) rfl (fun ls hl => ?_)
        refine lv_aload_n hx hb dX4_end_144 rfl (lv_at hl 3 rfl) ?_
        refine lv_iload_n hx hb dX4_end_145 rfl (lv_at hl 6 rfl) ?_
        refine lv_iload hx hb dX4_end_146 (lv_at hl 2 rfl) ?_
        have hPc : va_P (dC, dI) vwCl (w_md gm cA um) _ := hP
        have hDc := hD.sub (ws' := (w_md gm cA um)) [0, 1, 2, 3, 4, 5, 6, 7, 8, 9, 10, 11, 12, 13, 14, 15] (by decide) rfl
        have hFc := va_free (wc := (w_md gm cA um)) hD hS hA [0, 1, 2, 3, 4, 5, 6, 7, 8, 9, 10, 11, 12, 13, 14, 15] rfl
        refine va_callv (va_runV (As := [.int x3, .int r5]) (rest := []) ⟨hx, hb, hml, hown, hts⟩ (c_X4_result l dC dI cA gm _ um x3 r5 _ hw) (gcV 2 hts m640 m637 m639 m11 m24 rfl rfl (by decide +kernel) ⟨Nat.le_of_ble_eq_true rfl, Nat.le_of_ble_eq_true rfl⟩) ⟨xbl2, va_recv hK hPc (ci := 3) (q0 := 0) rfl rfl, fun U hU hW => ⟨rfl, by rw [hU], by rw [hU]; exact hPc, va_K.moved hW.alike hK, hDc.weaken (fun _ _ _ _ => trivial)⟩⟩ rfl rfl hl.1 rfl (lv_room (Nat.le_of_ble_eq_true rfl)) dX4_end_148 ⟨Nat.le_of_ble_eq_true rfl, Nat.le_of_ble_eq_true rfl⟩) hS (fun q _ h => hFc q h) hFc (fun u t H1 locs ht hvm hw hB hz1 hk1 hS => ?_)
        obtain ⟨um9, e_u⟩ : ∃ z, z = u := ⟨_, rfl⟩
        subst e_u
        obtain ⟨hP1, hK1, hD1⟩ := hB
        rw [ht] at hP1
        have hP : va_P (dC, dI) vwCl (w_md gm cA um9) H1 := hP1
        have hD : va_D A (w_md gm cA um9) := hD1.weaken (fun k q hk h => hFc q.1 h)
        clear hP1 hD1 hK1 hk1 hz1 hFc hDc hPc ht
        generalize H1 = H at hP hS ⊢
        refine lv_aload_n hx hb dX4_end_151 rfl (lv_at hl 3 rfl) ?_
        refine lv_iload_n hx hb dX4_end_152 rfl (lv_at hl 6 rfl) ?_
        refine lv_iconst (v := 1) hx hb dX4_end_153 (by decide) ?_
        refine lv_isub hx hb dX4_end_154 ?_
        refine lv_iload hx hb dX4_end_155 (lv_at hl 2 rfl) ?_
        refine lv_iload_n hx hb dX4_end_157 rfl (lv_at hl 4 rfl) ?_
        refine lv_iload hx hb dX4_end_158 (lv_at hl 1 rfl) ?_
        refine lv_aload_n hx hb dX4_end_160 rfl (lv_at hl 3 rfl) ?_
        refine lv_iload hx hb dX4_end_161 (lv_at hl 0 rfl) ?_
        refine lv_iload hx hb dX4_end_163 (lv_at hl 1 rfl) ?_
        refine lv_icmp_le (tgt := 173) hx hb dX4_end_165 (by decide) (fun c14 => ?_) (fun c14 => ?_)
        · replace hw := And.left hw c14
          refine lv_iload hx hb dX4_end_173 (lv_at hl 0 rfl) ?_
          exact J175 _ _ _ _ _ _ _ _ _ _ _ _ _ hw hk _ _ _ hP hD hS (lv_sub hl [3, 4, 5, 6, 7, 8, 2] rfl)
        · replace hw := And.right hw c14
          refine lv_iload hx hb dX4_end_168 (lv_at hl 1 rfl) ?_
          refine lv_goto (tgt := 175) hx hb dX4_end_170 (by decide) ?_
          exact J175 _ _ _ _ _ _ _ _ _ _ _ _ _ hw hk _ _ _ hP hD hS (lv_sub hl [3, 4, 5, 6, 7, 8, 2] rfl)
  have L74 : ∀ (KX : (Nat → Nat → Int32) → Prop) (x1 : Int32) (x2 : Int32) (x3 : Int32), (∀ (um : Nat → Nat → Int32), KX um → ∀ (H : Heap) (locs : List Loc) (ls : Array Slot), va_P (dC, dI) vwCl (w_md gm cA um) H → va_D A (w_md gm cA um) → va_S A s.heap H locs → lv_has ls 9 [(0, .ref (gm 0))] → W p l e (headSpec wX4_end rm_X4_end).room s m args below meth c H locs 0 0 (MQ below (va_Qi (fun r (u : (Nat → Nat → Int32)) => P r u) (xB dC dI cA (fun u : (Nat → Nat → Int32) => w_md gm cA u) A) A) args s 0 0 A) (F0 m 195 ls [])) → ∀ (N : Nat) (um : Nat → Nat → Int32) (x4 : Int32), wp_X4_end_74 KX x1 x2 x3 N um x4 → ∀ (H : Heap) (locs : List Loc) (ls : Array Slot), va_P (dC, dI) vwCl (w_md gm cA um) H → va_D A (w_md gm cA um) → va_S A s.heap H locs → lv_has ls 9 [(0, .ref (gm 0)), (1, .int x1), (2, .int x2), (3, .int x3), (4, .int x4)] → W p l e (headSpec wX4_end rm_X4_end).room s m args below meth c H locs 0 0 (MQ below (va_Qi (fun r (u : (Nat → Nat → Int32)) => P r u) (xB dC dI cA (fun u : (Nat → Nat → Int32) => w_md gm cA u) A) A) args s 0 0 A) (F0 m 74 ls []) := by
    intro KX x1 x2 x3 hx2 N74
    induction N74 with
    | zero =>
      intro um x4 hw
      exact False.elim hw
    | succ N74 hk =>
      intro um x4 hw H locs ls hP hD hS hl
      rw [wp_X4_end_74] at hw
      refine lv_iload hx hb dX4_end_74 (lv_at hl 4 rfl) ?_
      refine lv_aload_n hx hb dX4_end_76 rfl (lv_at hl 0 rfl) ?_
      refine va_get (D := (dC, dI)) (ci := 3) (v := .int (um 0 2)) (C := RX4) (T := TX4) (N := 23) hx hb hts iX4 hown hK hP 0 rfl rfl 2 (by decide) (hts _ (xm m530)) (fun _ h9 => h9) rfl dX4_end_77 ?_
      refine lv_icmp_ge (tgt := 195) hx hb dX4_end_80 (by decide) (fun c19 => ?_) (fun c19 => ?_)
      · replace hw := And.left hw c19
        exact hx2 _ hw _ _ _ hP hD hS (lv_sub hl [0] rfl)
      · replace hw := And.right hw c19
        refine lv_iload_n hx hb dX4_end_83 rfl (lv_at hl 3 rfl) ?_
        refine lv_iconst (v := (-1)) hx hb dX4_end_84 (by decide) ?_
        refine lv_icmp_eq (tgt := 195) hx hb dX4_end_85 (by decide) (fun c18 => ?_) (fun c18 => ?_)
        · replace hw := And.left hw c18
          exact hx2 _ hw _ _ _ hP hD hS (lv_sub hl [0] rfl)
        · replace hw := And.right hw c18
          refine lv_iconst (v := 0) hx hb dX4_end_88 (by decide) ?_
          refine lv_istore (lv' := [(5, .int 0), (0, .ref (gm 0)), (1, .int x1), (2, .int x2), (3, .int x3), (4, .int x4)]) hx hb dX4_end_89 hl (by decide) rfl (fun ls hl => ?_)
          obtain ⟨N91, hw⟩ := hw
          refine L91 _ _ _ _ _ (fun um16 hw H locs ls hP hD hS hl => ?_) N91 _ _ hw _ _ _ hP hD hS (lv_sub hl [1, 2, 3, 4, 5, 0] rfl)
          obtain ⟨v17, e_v17⟩ : ∃ y : Int32, y = x4 + 1 := ⟨_, rfl⟩
          replace hw := hw v17 e_v17
          refine lv_iinc (v := v17) (lv' := [(4, .int v17), (0, .ref (gm 0)), (1, .int x1), (2, .int x2), (3, .int x3)]) hx hb dX4_end_189 hl (k := 4) rfl (by rw [e_v17]; rfl) (by decide) rfl (fun ls hl => ?_)
          refine lv_goto (tgt := 74) hx hb dX4_end_192 (by decide) ?_
          exact hk _ _ hw _ _ _ hP hD hS (lv_sub hl [1, 2, 3, 4, 0] rfl)
  have J67 : ∀ (um : Nat → Nat → Int32) (x1 : Int32) (x2 : Int32) (x3 : Int32) (s0 : Int32) (s1 : Int32), wp_X4_end_67 P um x1 x2 x3 s0 s1 → ∀ (H : Heap) (locs : List Loc) (ls : Array Slot), va_P (dC, dI) vwCl (w_md gm cA um) H → va_D A (w_md gm cA um) → va_S A s.heap H locs → lv_has ls 9 [(0, .ref (gm 0)), (1, .int x1), (2, .int x2), (3, .int x3)] → W p l e (headSpec wX4_end rm_X4_end).room s m args below meth c H locs 0 0 (MQ below (va_Qi (fun r (u : (Nat → Nat → Int32)) => P r u) (xB dC dI cA (fun u : (Nat → Nat → Int32) => w_md gm cA u) A) A) args s 0 0 A) (F0 m 67 ls [.int s0, .int s1, .ref (gm 0)]) := by
    intro  um x1 x2 x3 s0 s1 hw H locs ls hP hD hS hl
    refine lv_iadd hx hb dX4_end_67 ?_
    obtain ⟨um4, e_um4⟩ : ∃ z, z = st um 0 7 (s1 + s0) := ⟨_, rfl⟩
    refine va_put (D := (dC, dI)) (ci := 3) (v := .int (s1 + s0)) (ty := .int) (C := RX4) (T := TX4) (N := 23) hx hb hts iX4 tyX4 tyX4_ok nmX4 hown hK hP hD hS 0 rfl rfl 18 (by decide) (hts _ (xm m546)) (fun _ h9 => h9) rfl (by decide +kernel) rfl rfl (Nat.le_of_ble_eq_true rfl) dX4_end_68 (fun H locs hP hD hS => ?_)
    replace hw := hw um4 e_um4
    have hP : va_P (dC, dI) vwCl (w_md gm cA um4) H := by rw [e_um4]; exact hP
    have hD : va_D A (w_md gm cA um4) := by rw [e_um4]; exact hD
    refine lv_iconst (v := 0) hx hb dX4_end_71 (by decide) ?_
    refine lv_istore (lv' := [(4, .int 0), (0, .ref (gm 0)), (1, .int x1), (2, .int x2), (3, .int x3)]) hx hb dX4_end_72 hl (by decide) rfl (fun ls hl => ?_)
    obtain ⟨N74, hw⟩ := hw
    refine L74 _ _ _ _ (fun um20 hw H locs ls hP hD hS hl => ?_) N74 _ _ hw _ _ _ hP hD hS (lv_sub hl [1, 2, 3, 4, 0] rfl)
    refine lv_aload_n hx hb dX4_end_195 rfl (lv_at hl 0 rfl) ?_
    refine va_get (D := (dC, dI)) (ci := 3) (v := .int (um20 0 4)) (C := RX4) (T := TX4) (N := 23) hx hb hts iX4 hown hK hP 0 rfl rfl 4 (by decide) (hts _ (xm m532)) (fun _ h9 => h9) rfl dX4_end_196 ?_
    exact W.iret hx hb hr (fun t ht hW => ⟨⟨_, um20, rfl, hw, by rw [ht]; exact hP, va_K.moved hW.alike hK, hD⟩, hS.F ht⟩) hS.2.2 dX4_end_199
  have J35 : ∀ (um : Nat → Nat → Int32) (x1 : Int32) (x2 : Int32) (s0 : Int32), wp_X4_end_35 P um x1 x2 s0 → ∀ (H : Heap) (locs : List Loc) (ls : Array Slot), va_P (dC, dI) vwCl (w_md gm cA um) H → va_D A (w_md gm cA um) → va_S A s.heap H locs → lv_has ls 9 [(0, .ref (gm 0)), (1, .int x1), (2, .int x2)] → W p l e (headSpec wX4_end rm_X4_end).room s m args below meth c H locs 0 0 (MQ below (va_Qi (fun r (u : (Nat → Nat → Int32)) => P r u) (xB dC dI cA (fun u : (Nat → Nat → Int32) => w_md gm cA u) A) A) args s 0 0 A) (F0 m 35 ls [.int s0, .ref (gm 0)]) := by
    intro  um x1 x2 s0 hw H locs ls hP hD hS hl
    obtain ⟨um1, e_um1⟩ : ∃ z, z = st um 0 0 s0 := ⟨_, rfl⟩
    refine va_put (D := (dC, dI)) (ci := 3) (v := .int s0) (ty := .int) (C := RX4) (T := TX4) (N := 23) hx hb hts iX4 tyX4 tyX4_ok nmX4 hown hK hP hD hS 0 rfl rfl 0 (by decide) (hts _ (xm m528)) (fun _ h9 => h9) rfl (by decide +kernel) rfl rfl (Nat.le_of_ble_eq_true rfl) dX4_end_35 (fun H locs hP hD hS => ?_)
    replace hw := hw um1 e_um1
    have hP : va_P (dC, dI) vwCl (w_md gm cA um1) H := by rw [e_um1]; exact hP
    have hD : va_D A (w_md gm cA um1) := by rw [e_um1]; exact hD
    refine lv_aload_n hx hb dX4_end_38 rfl (lv_at hl 0 rfl) ?_
    refine va_get (D := (dC, dI)) (ci := 3) (v := .int (um1 0 0)) (C := RX4) (T := TX4) (N := 23) hx hb hts iX4 hown hK hP 0 rfl rfl 0 (by decide) (hts _ (xm m528)) (fun _ h9 => h9) rfl dX4_end_39 ?_
    refine lv_if_le (tgt := 47) hx hb dX4_end_42 (by decide) (fun c22 => ?_) (fun c22 => ?_)
    · replace hw := And.left hw c22
      refine lv_aload_n hx hb dX4_end_47 rfl (lv_at hl 0 rfl) ?_
      have hPc : va_P (dC, dI) vwCl (w_md gm cA um1) _ := hP
      have hDc := hD.sub (ws' := (w_md gm cA um1)) [0, 1, 2, 3, 4, 5, 6, 7, 8, 9, 10, 11, 12, 13, 14, 15] (by decide) rfl
      have hFc := va_free (wc := (w_md gm cA um1)) hD hS hA [0, 1, 2, 3, 4, 5, 6, 7, 8, 9, 10, 11, 12, 13, 14, 15] rfl
      refine va_calli (va_runV (As := []) (rest := []) ⟨hx, hb, hml, hown, hts⟩ (c_X4_leave l dC dI cA gm _ um1 _ hw) (gcV 0 hts m632 m629 m631 m9 m24 rfl rfl (by decide +kernel) ⟨Nat.le_of_ble_eq_true rfl, Nat.le_of_ble_eq_true rfl⟩) ⟨xbl2, va_recv hK hPc (ci := 3) (q0 := 0) rfl rfl, fun U hU hW => ⟨rfl, by rw [hU], by rw [hU]; exact hPc, va_K.moved hW.alike hK, hDc.weaken (fun _ _ _ _ => trivial)⟩⟩ rfl rfl hl.1 rfl (lv_room (Nat.le_of_ble_eq_true rfl)) dX4_end_48 ⟨Nat.le_of_ble_eq_true rfl, Nat.le_of_ble_eq_true rfl⟩) hS (fun q _ h => hFc q h) hFc (fun r2 u t H1 locs ht hvm hw hB hz1 hk1 hS => ?_)
      obtain ⟨um3, e_u⟩ : ∃ z, z = u := ⟨_, rfl⟩
      subst e_u
      obtain ⟨hP1, hK1, hD1⟩ := hB
      rw [ht] at hP1
      have hP : va_P (dC, dI) vwCl (w_md gm cA um3) H1 := hP1
      have hD : va_D A (w_md gm cA um3) := hD1.weaken (fun k q hk h => hFc q.1 h)
      clear hP1 hD1 hK1 hk1 hz1 hFc hDc hPc ht
      generalize H1 = H at hP hS ⊢
      refine lv_istore_n (lv' := [(3, .int r2), (0, .ref (gm 0)), (1, .int x1), (2, .int x2)]) hx hb dX4_end_51 rfl hl (by decide) rfl (fun ls hl => ?_)
      refine lv_aload_n hx hb dX4_end_52 rfl (lv_at hl 1 rfl) ?_
      refine lv_dup hx hb dX4_end_53 rfl ?_
      refine va_get (D := (dC, dI)) (ci := 3) (v := .int (um3 0 7)) (C := RX4) (T := TX4) (N := 23) hx hb hts iX4 hown hK hP 0 rfl rfl 18 (by decide) (hts _ (xm m546)) (fun _ h9 => h9) rfl dX4_end_54 ?_
      refine lv_iload_n hx hb dX4_end_57 rfl (lv_at hl 0 rfl) ?_
      refine lv_iconst (v := (-1)) hx hb dX4_end_58 (by decide) ?_
      refine lv_icmp_ne (tgt := 66) hx hb dX4_end_59 (by decide) (fun c21 => ?_) (fun c21 => ?_)
      · replace hw := And.left hw c21
        refine lv_iconst (v := 1) hx hb dX4_end_66 (by decide) ?_
        exact J67 _ _ _ _ _ _ hw _ _ _ hP hD hS (lv_sub hl [1, 2, 3, 0] rfl)
      · replace hw := And.right hw c21
        refine lv_iconst (v := 0) hx hb dX4_end_62 (by decide) ?_
        refine lv_goto (tgt := 67) hx hb dX4_end_63 (by decide) ?_
        exact J67 _ _ _ _ _ _ hw _ _ _ hP hD hS (lv_sub hl [1, 2, 3, 0] rfl)
    · replace hw := And.right hw c22
      refine lv_iconst (v := 0) hx hb dX4_end_45 (by decide) ?_
      exact W.iret hx hb hr (fun t ht hW => ⟨⟨_, um1, rfl, hw, by rw [ht]; exact hP, va_K.moved hW.alike hK, hD⟩, hS.F ht⟩) hS.2.2 dX4_end_46
  have J30 : ∀ (um : Nat → Nat → Int32) (x1 : Int32) (x2 : Int32), wp_X4_end_30 P um x1 x2 → ∀ (H : Heap) (locs : List Loc) (ls : Array Slot), va_P (dC, dI) vwCl (w_md gm cA um) H → va_D A (w_md gm cA um) → va_S A s.heap H locs → lv_has ls 9 [(0, .ref (gm 0)), (1, .int x1), (2, .int x2)] → W p l e (headSpec wX4_end rm_X4_end).room s m args below meth c H locs 0 0 (MQ below (va_Qi (fun r (u : (Nat → Nat → Int32)) => P r u) (xB dC dI cA (fun u : (Nat → Nat → Int32) => w_md gm cA u) A) A) args s 0 0 A) (F0 m 30 ls [.ref (gm 0)]) := by
    intro  um x1 x2 hw H locs ls hP hD hS hl
    refine lv_iconst (v := 2) hx hb dX4_end_30 (by decide) ?_
    refine lv_goto (tgt := 35) hx hb dX4_end_31 (by decide) ?_
    exact J35 _ _ _ _ hw _ _ _ hP hD hS (lv_sub hl [0, 1, 2] rfl)
  have hl := lv_entry ([.ref (gm 0), .int p0, .int p1]) (n := 9) (Nat.le_of_ble_eq_true rfl)
  rw [show entryFrame m args 9 = entryFrame m (([.ref (gm 0), .int p0, .int p1] : List Value).toArray) 9 from by rw [hargs], lg_entry_eq]
  generalize (lg_sl ([.ref (gm 0), .int p0, .int p1]) ++ List.replicate (9 - (lg_sl ([.ref (gm 0), .int p0, .int p1])).length) Slot.unset).toArray = ls at hl ⊢
  have hl : lv_has ls 9 [(0, .ref (gm 0)), (1, .int p0), (2, .int p1)] := hl
  have hP : va_P (dC, dI) vwCl (w_md gm cA um) s.heap := hP
  refine lv_aload_n hx hb dX4_end_0 rfl (lv_at hl 0 rfl) ?_
  refine lv_aload_n hx hb dX4_end_1 rfl (lv_at hl 0 rfl) ?_
  refine va_get (D := (dC, dI)) (ci := 3) (v := .int (um 0 4)) (C := RX4) (T := TX4) (N := 23) hx hb hts iX4 hown hK hP 0 rfl rfl 4 (by decide) (hts _ (xm m532)) (fun _ h9 => h9) rfl dX4_end_2 ?_
  refine lv_iconst (v := 1) hx hb dX4_end_5 (by decide) ?_
  refine lv_icmp_ne (tgt := 13) hx hb dX4_end_6 (by decide) (fun c27 => ?_) (fun c27 => ?_)
  · replace hw := And.left hw c27
    refine lv_iload_n hx hb dX4_end_13 rfl (lv_at hl 1 rfl) ?_
    refine lv_if_lt (tgt := 30) hx hb dX4_end_14 (by decide) (fun c26 => ?_) (fun c26 => ?_)
    · replace hw := And.left hw c26
      exact J30 _ _ _ hw _ _ _ hP hD hS (lv_sub hl [0, 1, 2] rfl)
    · replace hw := And.right hw c26
      refine lv_iload_n hx hb dX4_end_17 rfl (lv_at hl 1 rfl) ?_
      refine lv_bipush (v := 15) hx hb dX4_end_18 (by decide) ?_
      refine lv_icmp_gt (tgt := 30) hx hb dX4_end_20 (by decide) (fun c25 => ?_) (fun c25 => ?_)
      · replace hw := And.left hw c25
        exact J30 _ _ _ hw _ _ _ hP hD hS (lv_sub hl [0, 1, 2] rfl)
      · replace hw := And.right hw c25
        refine lv_iload_n hx hb dX4_end_23 rfl (lv_at hl 2 rfl) ?_
        refine vp_callSi (va_Run.run (va_runS (As := [.int p1]) (rest := [.ref (gm 0)]) ⟨hx, hb, hml, hown, hts⟩ (c_X4_isByte l p1 _ hw) (gcS 1 hts m628 m626 m627 m24 rfl rfl (by decide +kernel) ⟨Nat.le_of_ble_eq_true rfl, Nat.le_of_ble_eq_true rfl⟩) ⟨xbl0, fun U hU hW => ⟨rfl, trivial⟩⟩ rfl rfl hl.1 rfl (lv_room (Nat.le_of_ble_eq_true rfl)) dX4_end_24 ⟨Nat.le_of_ble_eq_true rfl, Nat.le_of_ble_eq_true rfl⟩)) (fun r23 hw => ?_)
        refine lv_if_ne (tgt := 34) hx hb dX4_end_27 (by decide) (fun c24 => ?_) (fun c24 => ?_)
        · replace hw := And.left hw c24
          refine lv_iconst (v := 0) hx hb dX4_end_34 (by decide) ?_
          exact J35 _ _ _ _ hw _ _ _ hP hD hS (lv_sub hl [0, 1, 2] rfl)
        · replace hw := And.right hw c24
          exact J30 _ _ _ hw _ _ _ hP hD hS (lv_sub hl [0, 1, 2] rfl)
  · replace hw := And.right hw c27
    refine lv_iconst (v := 1) hx hb dX4_end_9 (by decide) ?_
    refine lv_goto (tgt := 35) hx hb dX4_end_10 (by decide) ?_
    exact J35 _ _ _ _ hw _ _ _ hP hD hS (lv_sub hl [0, 1, 2] rfl)
