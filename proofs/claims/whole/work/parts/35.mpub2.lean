theorem m18 : Cond.selects RX4 yX4_isPoint yX4_isPoint ∈ gG := gG_mk (i := 18) (by decide +kernel) (by decide +kernel)
theorem m19 : Cond.selects RX4 yX4_here yX4_here ∈ gG := gG_mk (i := 19) (by decide +kernel) (by decide +kernel)
theorem m543 : Cond.fieldLink RX4 45 "BlendRowsModel" "covers" "[I" ∈ gG := gG_mk (i := 543) (by decide +kernel) (by decide +kernel)
theorem m544 : Cond.fieldLink RX4 48 "BlendRowsModel" "set" "[I" ∈ gG := gG_mk (i := 544) (by decide +kernel) (by decide +kernel)
theorem m707 : Cond.methodLink RX4 157 yX4_isBand ∈ gG := gG_mk (i := 707) (by decide +kernel) (by decide +kernel)
theorem m708 : Cond.static yX4_isBand ∈ gG := gG_mk (i := 708) (by decide +kernel) (by decide +kernel)
theorem m709 : Cond.code yX4_isBand cX4_isBand 1 (some .boolean) ∈ gG := gG_mk (i := 709) (by decide +kernel) (by decide +kernel)
theorem m718 : Cond.methodLink RX4 160 yX4_isPoint ∈ gG := gG_mk (i := 718) (by decide +kernel) (by decide +kernel)
theorem m720 : Cond.instanceMethod yX4_isPoint ∈ gG := gG_mk (i := 720) (by decide +kernel) (by decide +kernel)
theorem m721 : Cond.code yX4_isPoint cX4_isPoint 3 (some .boolean) ∈ gG := gG_mk (i := 721) (by decide +kernel) (by decide +kernel)
theorem m730 : Cond.methodLink RX4 164 yX4_here ∈ gG := gG_mk (i := 730) (by decide +kernel) (by decide +kernel)
theorem m732 : Cond.instanceMethod yX4_here ∈ gG := gG_mk (i := 732) (by decide +kernel) (by decide +kernel)
theorem m733 : Cond.code yX4_here cX4_here 1 (some .int) ∈ gG := gG_mk (i := 733) (by decide +kernel) (by decide +kernel)
abbrev wX4_mask : List Cond := Cond.code yX4_mask cX4_mask 7 (some .int) :: gG
def wp_X4_mask_152 (K : (Nat → Nat → Int32) → Int32 → Prop) (um : Nat → Nat → Int32) (x1 : Int32) (x2 : Int32) (x3 : Int32) (x4 : Int32) (s0 : Int32) (s1 : Int32) : Prop :=
  (vp_in s1 144 ∧ ∀ um5 : Nat → Nat → Int32, um5 = st um 8 s1.toNatClampNeg s0 → ∀ um6 : Nat → Nat → Int32, um6 = st um5 0 6 1 → ∀ v7 : Int32, v7 = x4 + 1 → K um6 v7)
def wp_X4_mask_131 (K : (Nat → Nat → Int32) → Int32 → Prop) (um : Nat → Nat → Int32) (x1 : Int32) (x2 : Int32) (x3 : Int32) (x4 : Int32) (x5 : Int32) : Prop :=
  ((x2 = 0 → wp_X4_mask_152 K um x1 x2 x3 x4 x5 x4) ∧
  (¬ x2 = 0 → wp_X4_mask_152 K um x1 x2 x3 x4 (255 - x5) x4))
def wp_X4_mask_91 (KX : (Nat → Nat → Int32) → Prop) (x1 : Int32) (x2 : Int32) (x3 : Int32) (x4 : Int32) (x5 : Int32) : Nat → (Nat → Nat → Int32) → Int32 → Prop
  | 0, _, _ => False
  | N91 + 1, um, x6 =>
    ((3 ≤ x6 → KX um) ∧
  (¬ 3 ≤ x6 → (vp_in x6 3 ∧ wp_X4_mul (um 12 x6.toNatClampNeg) x5 (fun r11 => (vp_in x6 3 ∧ ∀ um12 : Nat → Nat → Int32, um12 = st um 12 x6.toNatClampNeg r11 → ∀ v13 : Int32, v13 = x6 + 1 → wp_X4_mask_91 KX x1 x2 x3 x4 x5 N91 um12 v13)))))
def wp_X4_mask_48 (KX : (Nat → Nat → Int32) → Prop) (x1 : Int32) (x2 : Int32) (x3 : Int32) : Nat → (Nat → Nat → Int32) → Int32 → Prop
  | 0, _, _ => False
  | N48 + 1, um, x4 =>
    ((144 ≤ x4 → KX um) ∧
  (¬ 144 ≤ x4 → ((x3 = (-1) → KX um) ∧
  (¬ x3 = (-1) → (vp_in ((144 * x3) + x4) 1152 ∧ ∀ v4 : Int32, v4 = (um 6 ((144 * x3) + x4).toNatClampNeg) → ((¬ x1 = 2 → wp_X4_mask_131 (wp_X4_mask_48 KX x1 x2 x3 N48) um x1 x2 x3 x4 v4) ∧
  (x1 = 2 → wp_X4_result um x3 x4 (fun (um10 : Nat → Nat → Int32) => (∃ N91, wp_X4_mask_91 (fun (um15 : Nat → Nat → Int32) => wp_X4_lum (um15 12) (fun r16 => wp_X4_mask_131 (wp_X4_mask_48 KX x1 x2 x3 N48) um15 x1 x2 x3 x4 r16)) x1 x2 x3 x4 v4 N91 um10 0)))))))))
def wp_X4_mask_28 (P : Int32 → (Nat → Nat → Int32) → Prop) (um : Nat → Nat → Int32) (x1 : Int32) (x2 : Int32) (s0 : Int32) : Prop :=
  ∀ um1 : Nat → Nat → Int32, um1 = st um 0 0 s0 → (((um1 0 0) ≤ 0 → wp_X4_leave um1 (fun (r2 : Int32) (um3 : Nat → Nat → Int32) => (∃ N48, wp_X4_mask_48 (fun (um20 : Nat → Nat → Int32) => P (um20 0 4) um20) x1 x2 r2 N48 um3 0))) ∧
  (¬ (um1 0 0) ≤ 0 → P 0 um1))
def wp_X4_mask_23 (P : Int32 → (Nat → Nat → Int32) → Prop) (um : Nat → Nat → Int32) (x1 : Int32) (x2 : Int32) : Prop :=
  wp_X4_mask_28 P um x1 x2 2
def wp_X4_mask (um : Nat → Nat → Int32) (p0 : Int32) (p1 : Int32) (P : Int32 → (Nat → Nat → Int32) → Prop) : Prop :=
  ((¬ (um 0 4) = 1 → ((p0 < 1 → wp_X4_mask_23 P um p0 p1) ∧
  (¬ p0 < 1 → ((p0 ≤ 2 → wp_X4_mask_28 P um p0 p1 0) ∧
  (¬ p0 ≤ 2 → wp_X4_mask_23 P um p0 p1))))) ∧
  ((um 0 4) = 1 → wp_X4_mask_28 P um p0 p1 1))
abbrev rm_X4_mask : Room := { frames := 2, cells := 0, slots := 0, locals := 42 }
set_option maxHeartbeats 4000000 in
set_option maxRecDepth 100000 in
theorem c_X4_mask (l : Launch) (dC : Nat → ClassId) (dI : Nat → Nat → Nat) (cA : Nat → ClassId) (gm : Nat → Nat) (sz : Nat) (um : Nat → Nat → Int32) (p0 : Int32) (p1 : Int32) (P : Int32 → (Nat → Nat → Int32) → Prop) (hw : wp_X4_mask um p0 p1 P) : Met l yX4_mask wX4_mask rm_X4_mask (xP2 dC dI cA (w_md gm cA um) sz [.ref (gm 0), .int p0, .int p1]) (va_Qi (fun r (u : (Nat → Nat → Int32)) => P r u) (xB dC dI cA (fun u : (Nat → Nat → Int32) => w_md gm cA u) (va_A (w_md gm cA um) sz)) (va_A (w_md gm cA um) sz)) 0 0 (va_A (w_md gm cA um) sz) := by
  refine Met.ofW (cc := cX4_mask) (maxL := 7) (ret := (some .int)) (by decide) rfl ?_
  intro p e s m args below meth c s₁ B hml hv
  obtain ⟨hargs, hsz, hP, hK, hD0⟩ := hv
  have hx := B.exec
  have hb := B.bytes
  have hr := B.returns
  have hts := atoms_spec (ws := wX4_mask) B.pre
  have hown : s.vm.findClass RX4 = some m.cls := findClass_of_methodNamed B.named
  have hlocks := B.notSynchronized
  subst hsz
  have hD := hD0.self (sz := s.heap.size)
  generalize hAe : va_A (w_md gm cA um) s.heap.size = A at hD ⊢
  have hA : ∀ q : Nat, s.heap.size ≤ q → A q := fun q h => by rw [← hAe]; exact Or.inr h
  have hS : va_S A s.heap s.heap [] := va_S.rf
  clear hAe hD0
  have J152 : ∀ (K : (Nat → Nat → Int32) → Int32 → Prop) (um : Nat → Nat → Int32) (x1 : Int32) (x2 : Int32) (x3 : Int32) (x4 : Int32) (s0 : Int32) (s1 : Int32), wp_X4_mask_152 K um x1 x2 x3 x4 s0 s1 → (∀ (um : Nat → Nat → Int32) (x4 : Int32), K um x4 → ∀ (H : Heap) (locs : List Loc) (ls : Array Slot), va_P (dC, dI) vwCl (w_md gm cA um) H → va_D A (w_md gm cA um) → va_S A s.heap H locs → lv_has ls 7 [(0, .ref (gm 0)), (1, .int x1), (2, .int x2), (3, .int x3), (4, .int x4)] → W p l e (headSpec wX4_mask rm_X4_mask).room s m args below meth c H locs 0 0 (MQ below (va_Qi (fun r (u : (Nat → Nat → Int32)) => P r u) (xB dC dI cA (fun u : (Nat → Nat → Int32) => w_md gm cA u) A) A) args s 0 0 A) (F0 m 48 ls [])) → ∀ (H : Heap) (locs : List Loc) (ls : Array Slot), va_P (dC, dI) vwCl (w_md gm cA um) H → va_D A (w_md gm cA um) → va_S A s.heap H locs → lv_has ls 7 [(0, .ref (gm 0)), (1, .int x1), (2, .int x2), (3, .int x3), (4, .int x4)] → W p l e (headSpec wX4_mask rm_X4_mask).room s m args below meth c H locs 0 0 (MQ below (va_Qi (fun r (u : (Nat → Nat → Int32)) => P r u) (xB dC dI cA (fun u : (Nat → Nat → Int32) => w_md gm cA u) A) A) args s 0 0 A) (F0 m 152 ls [.int s0, .int s1, .ref (gm 8)]) := by
    intro K um x1 x2 x3 x4 s0 s1 hw hk H locs ls hP hD hS hl
    obtain ⟨um5, e_um5⟩ : ∃ z, z = st um 8 s1.toNatClampNeg s0 := ⟨_, rfl⟩
    refine va_iast hx hb hK hP hD hS 8 0 rfl rfl (And.left hw) dX4_mask_152 (fun H locs hP hD hS => ?_)
    replace hw := And.right hw
    replace hw := hw um5 e_um5
    have hP : va_P (dC, dI) vwCl (w_md gm cA um5) H := by rw [e_um5]; exact hP
    have hD : va_D A (w_md gm cA um5) := by rw [e_um5]; exact hD
    refine lv_aload_n hx hb dX4_mask_153 rfl (lv_at hl 0 rfl) ?_
    refine lv_iconst (v := 1) hx hb dX4_mask_154 (by decide) ?_
    obtain ⟨um6, e_um6⟩ : ∃ z, z = st um5 0 6 1 := ⟨_, rfl⟩
    refine va_put (D := (dC, dI)) (ci := 3) (v := .int 1) (ty := .boolean) (C := RX4) (T := TX4) (N := 23) hx hb hts iX4 tyX4 tyX4_ok nmX4 hown hK hP hD hS 0 rfl rfl 13 (by decide) (hts _ (xm m541)) (fun _ h9 => h9) rfl (by decide +kernel) rfl rfl (Nat.le_of_ble_eq_true rfl) dX4_mask_155 (fun H locs hP hD hS => ?_)
    replace hw := hw um6 e_um6
    have hP : va_P (dC, dI) vwCl (w_md gm cA um6) H := by rw [e_um6]; exact hP
    have hD : va_D A (w_md gm cA um6) := by rw [e_um6]; exact hD
    obtain ⟨v7, e_v7⟩ : ∃ y : Int32, y = x4 + 1 := ⟨_, rfl⟩
    replace hw := hw v7 e_v7
    refine lv_iinc (v := v7) (lv' := [(4, .int v7), (0, .ref (gm 0)), (1, .int x1), (2, .int x2), (3, .int x3)]) hx hb dX4_mask_158 hl (k := 4) rfl (by rw [e_v7]; rfl) (by decide) rfl (fun ls hl => ?_)
    refine lv_goto (tgt := 48) hx hb dX4_mask_161 (by decide) ?_
    exact hk _ _ hw _ _ _ hP hD hS (lv_sub hl [1, 2, 3, 4, 0] rfl)
  have J131 : ∀ (K : (Nat → Nat → Int32) → Int32 → Prop) (um : Nat → Nat → Int32) (x1 : Int32) (x2 : Int32) (x3 : Int32) (x4 : Int32) (x5 : Int32), wp_X4_mask_131 K um x1 x2 x3 x4 x5 → (∀ (um : Nat → Nat → Int32) (x4 : Int32), K um x4 → ∀ (H : Heap) (locs : List Loc) (ls : Array Slot), va_P (dC, dI) vwCl (w_md gm cA um) H → va_D A (w_md gm cA um) → va_S A s.heap H locs → lv_has ls 7 [(0, .ref (gm 0)), (1, .int x1), (2, .int x2), (3, .int x3), (4, .int x4)] → W p l e (headSpec wX4_mask rm_X4_mask).room s m args below meth c H locs 0 0 (MQ below (va_Qi (fun r (u : (Nat → Nat → Int32)) => P r u) (xB dC dI cA (fun u : (Nat → Nat → Int32) => w_md gm cA u) A) A) args s 0 0 A) (F0 m 48 ls [])) → ∀ (H : Heap) (locs : List Loc) (ls : Array Slot), va_P (dC, dI) vwCl (w_md gm cA um) H → va_D A (w_md gm cA um) → va_S A s.heap H locs → lv_has ls 7 [(0, .ref (gm 0)), (1, .int x1), (2, .int x2), (3, .int x3), (4, .int x4), (5, .int x5)] → W p l e (headSpec wX4_mask rm_X4_mask).room s m args below meth c H locs 0 0 (MQ below (va_Qi (fun r (u : (Nat → Nat → Int32)) => P r u) (xB dC dI cA (fun u : (Nat → Nat → Int32) => w_md gm cA u) A) A) args s 0 0 A) (F0 m 131 ls []) := by
    intro K um x1 x2 x3 x4 x5 hw hk H locs ls hP hD hS hl
    refine lv_aload_n hx hb dX4_mask_131 rfl (lv_at hl 0 rfl) ?_
    refine va_get (D := (dC, dI)) (ci := 3) (v := .ref (gm 8)) (C := RX4) (T := TX4) (N := 23) hx hb hts iX4 hown hK hP 0 rfl rfl 14 (by decide) (hts _ (xm m542)) (fun _ h9 => h9) rfl dX4_mask_132 ?_
    refine lv_iload hx hb dX4_mask_135 (lv_at hl 4 rfl) ?_
    refine lv_iload_n hx hb dX4_mask_137 rfl (lv_at hl 2 rfl) ?_
    refine lv_if_eq (tgt := 150) hx hb dX4_mask_138 (by decide) (fun c8 => ?_) (fun c8 => ?_)
    · replace hw := And.left hw c8
      refine lv_iload hx hb dX4_mask_150 (lv_at hl 5 rfl) ?_
      exact J152 _ _ _ _ _ _ _ _ hw hk _ _ _ hP hD hS (lv_sub hl [0, 1, 2, 3, 4] rfl)
    · replace hw := And.right hw c8
      refine lv_sipush (v := 255) hx hb dX4_mask_141 (by decide) ?_
      refine lv_iload hx hb dX4_mask_144 (lv_at hl 5 rfl) ?_
      refine lv_isub hx hb dX4_mask_146 ?_
      refine lv_goto (tgt := 152) hx hb dX4_mask_147 (by decide) ?_
      exact J152 _ _ _ _ _ _ _ _ hw hk _ _ _ hP hD hS (lv_sub hl [0, 1, 2, 3, 4] rfl)
  have L91 : ∀ (KX : (Nat → Nat → Int32) → Prop) (x1 : Int32) (x2 : Int32) (x3 : Int32) (x4 : Int32) (x5 : Int32), (∀ (um : Nat → Nat → Int32), KX um → ∀ (H : Heap) (locs : List Loc) (ls : Array Slot), va_P (dC, dI) vwCl (w_md gm cA um) H → va_D A (w_md gm cA um) → va_S A s.heap H locs → lv_has ls 7 [(0, .ref (gm 0)), (1, .int x1), (2, .int x2), (3, .int x3), (4, .int x4)] → W p l e (headSpec wX4_mask rm_X4_mask).room s m args below meth c H locs 0 0 (MQ below (va_Qi (fun r (u : (Nat → Nat → Int32)) => P r u) (xB dC dI cA (fun u : (Nat → Nat → Int32) => w_md gm cA u) A) A) args s 0 0 A) (F0 m 122 ls [])) → ∀ (N : Nat) (um : Nat → Nat → Int32) (x6 : Int32), wp_X4_mask_91 KX x1 x2 x3 x4 x5 N um x6 → ∀ (H : Heap) (locs : List Loc) (ls : Array Slot), va_P (dC, dI) vwCl (w_md gm cA um) H → va_D A (w_md gm cA um) → va_S A s.heap H locs → lv_has ls 7 [(0, .ref (gm 0)), (1, .int x1), (2, .int x2), (3, .int x3), (4, .int x4), (5, .int x5), (6, .int x6)] → W p l e (headSpec wX4_mask rm_X4_mask).room s m args below meth c H locs 0 0 (MQ below (va_Qi (fun r (u : (Nat → Nat → Int32)) => P r u) (xB dC dI cA (fun u : (Nat → Nat → Int32) => w_md gm cA u) A) A) args s 0 0 A) (F0 m 91 ls []) := by
    intro KX x1 x2 x3 x4 x5 hx2 N91
    induction N91 with
    | zero =>
      intro um x6 hw
      exact False.elim hw
    | succ N91 hk =>
      intro um x6 hw H locs ls hP hD hS hl
      rw [wp_X4_mask_91] at hw
      refine lv_iload hx hb dX4_mask_91 (lv_at hl 6 rfl) ?_
      refine lv_iconst (v := 3) hx hb dX4_mask_93 (by decide) ?_
      refine lv_icmp_ge (tgt := 122) hx hb dX4_mask_94 (by decide) (fun c14 => ?_) (fun c14 => ?_)
      · replace hw := And.left hw c14
        exact hx2 _ hw _ _ _ hP hD hS (lv_sub hl [0, 1, 2, 3, 4] rfl)
      · replace hw := And.right hw c14
        refine lv_aload_n hx hb dX4_mask_97 rfl (lv_at hl 0 rfl) ?_
        refine va_get (D := (dC, dI)) (ci := 3) (v := .ref (gm 12)) (C := RX4) (T := TX4) (N := 23) hx hb hts iX4 hown hK hP 0 rfl rfl 19 (by decide) (hts _ (xm m547)) (fun _ h9 => h9) rfl dX4_mask_98 ?_
        refine lv_iload hx hb dX4_mask_101 (lv_at hl 6 rfl) ?_
        refine lv_aload_n hx hb dX4_mask_103 rfl (lv_at hl 0 rfl) ?_
        refine va_get (D := (dC, dI)) (ci := 3) (v := .ref (gm 12)) (C := RX4) (T := TX4) (N := 23) hx hb hts iX4 hown hK hP 0 rfl rfl 19 (by decide) (hts _ (xm m547)) (fun _ h9 => h9) rfl dX4_mask_104 ?_
        refine lv_iload hx hb dX4_mask_107 (lv_at hl 6 rfl) ?_
        refine va_iald hx hb hK hP 12 0 rfl rfl (And.left hw) dX4_mask_109 ?_
        replace hw := And.right hw
        refine lv_iload hx hb dX4_mask_110 (lv_at hl 5 rfl) ?_
        refine vp_callSi (va_Run.run (va_runS (As := [.int (um 12 x6.toNatClampNeg), .int x5]) (rest := [.int x6, .ref (gm 12)]) ⟨hx, hb, hml, hown, hts⟩ (c_X4_mul l (um 12 x6.toNatClampNeg) x5 _ hw) (gcS 2 hts m621 m619 m620 m24 rfl rfl (by decide +kernel) ⟨Nat.le_of_ble_eq_true rfl, Nat.le_of_ble_eq_true rfl⟩) ⟨xbl0, fun U hU hW => ⟨rfl, trivial⟩⟩ rfl rfl hl.1 rfl (lv_room (Nat.le_of_ble_eq_true rfl)) dX4_mask_112 ⟨Nat.le_of_ble_eq_true rfl, Nat.le_of_ble_eq_true rfl⟩)) (fun r11 hw => ?_)
        obtain ⟨um12, e_um12⟩ : ∃ z, z = st um 12 x6.toNatClampNeg r11 := ⟨_, rfl⟩
        refine va_iast hx hb hK hP hD hS 12 0 rfl rfl (And.left hw) dX4_mask_115 (fun H locs hP hD hS => ?_)
        replace hw := And.right hw
        replace hw := hw um12 e_um12
        have hP : va_P (dC, dI) vwCl (w_md gm cA um12) H := by rw [e_um12]; exact hP
        have hD : va_D A (w_md gm cA um12) := by rw [e_um12]; exact hD
        obtain ⟨v13, e_v13⟩ : ∃ y : Int32, y = x6 + 1 := ⟨_, rfl⟩
        replace hw := hw v13 e_v13
        refine lv_iinc (v := v13) (lv' := [(6, .int v13), (0, .ref (gm 0)), (1, .int x1), (2, .int x2), (3, .int x3), (4, .int x4), (5, .int x5)]) hx hb dX4_mask_116 hl (k := 6) rfl (by rw [e_v13]; rfl) (by decide) rfl (fun ls hl => ?_)
        refine lv_goto (tgt := 91) hx hb dX4_mask_119 (by decide) ?_
        exact hk _ _ hw _ _ _ hP hD hS (lv_sub hl [1, 2, 3, 4, 5, 6, 0] rfl)
  have L48 : ∀ (KX : (Nat → Nat → Int32) → Prop) (x1 : Int32) (x2 : Int32) (x3 : Int32), (∀ (um : Nat → Nat → Int32), KX um → ∀ (H : Heap) (locs : List Loc) (ls : Array Slot), va_P (dC, dI) vwCl (w_md gm cA um) H → va_D A (w_md gm cA um) → va_S A s.heap H locs → lv_has ls 7 [(0, .ref (gm 0))] → W p l e (headSpec wX4_mask rm_X4_mask).room s m args below meth c H locs 0 0 (MQ below (va_Qi (fun r (u : (Nat → Nat → Int32)) => P r u) (xB dC dI cA (fun u : (Nat → Nat → Int32) => w_md gm cA u) A) A) args s 0 0 A) (F0 m 164 ls [])) → ∀ (N : Nat) (um : Nat → Nat → Int32) (x4 : Int32), wp_X4_mask_48 KX x1 x2 x3 N um x4 → ∀ (H : Heap) (locs : List Loc) (ls : Array Slot), va_P (dC, dI) vwCl (w_md gm cA um) H → va_D A (w_md gm cA um) → va_S A s.heap H locs → lv_has ls 7 [(0, .ref (gm 0)), (1, .int x1), (2, .int x2), (3, .int x3), (4, .int x4)] → W p l e (headSpec wX4_mask rm_X4_mask).room s m args below meth c H locs 0 0 (MQ below (va_Qi (fun r (u : (Nat → Nat → Int32)) => P r u) (xB dC dI cA (fun u : (Nat → Nat → Int32) => w_md gm cA u) A) A) args s 0 0 A) (F0 m 48 ls []) := by
    intro KX x1 x2 x3 hx2 N48
    induction N48 with
    | zero =>
      intro um x4 hw
      exact False.elim hw
    | succ N48 hk =>
      intro um x4 hw H locs ls hP hD hS hl
      rw [wp_X4_mask_48] at hw
      refine lv_iload hx hb dX4_mask_48 (lv_at hl 4 rfl) ?_
      refine lv_sipush (v := 144) hx hb dX4_mask_50 (by decide) ?_
      refine lv_icmp_ge (tgt := 164) hx hb dX4_mask_53 (by decide) (fun c19 => ?_) (fun c19 => ?_)
      · replace hw := And.left hw c19
        exact hx2 _ hw _ _ _ hP hD hS (lv_sub hl [0] rfl)
      · replace hw := And.right hw c19
        refine lv_iload_n hx hb dX4_mask_56 rfl (lv_at hl 3 rfl) ?_
        refine lv_iconst (v := (-1)) hx hb dX4_mask_57 (by decide) ?_
        refine lv_icmp_eq (tgt := 164) hx hb dX4_mask_58 (by decide) (fun c18 => ?_) (fun c18 => ?_)
        · replace hw := And.left hw c18
          exact hx2 _ hw _ _ _ hP hD hS (lv_sub hl [0] rfl)
        · replace hw := And.right hw c18
          refine lv_aload_n hx hb dX4_mask_61 rfl (lv_at hl 0 rfl) ?_
          refine va_get (D := (dC, dI)) (ci := 3) (v := .ref (gm 6)) (C := RX4) (T := TX4) (N := 23) hx hb hts iX4 hown hK hP 0 rfl rfl 11 (by decide) (hts _ (xm m539)) (fun _ h9 => h9) rfl dX4_mask_62 ?_
          refine lv_sipush (v := 144) hx hb dX4_mask_65 (by decide) ?_
          refine lv_iload_n hx hb dX4_mask_68 rfl (lv_at hl 3 rfl) ?_
          refine lv_imul hx hb dX4_mask_69 ?_
          refine lv_iload hx hb dX4_mask_70 (lv_at hl 4 rfl) ?_
          refine lv_iadd hx hb dX4_mask_72 ?_
          refine va_iald hx hb hK hP 6 0 rfl rfl (And.left hw) dX4_mask_73 ?_
          replace hw := And.right hw
          refine lv_topi (fun v4 e_v4 => ?_)
          replace hw := hw v4 e_v4
          refine lv_istore (lv' := [(5, .int v4), (0, .ref (gm 0)), (1, .int x1), (2, .int x2), (3, .int x3), (4, .int x4)]) hx hb dX4_mask_74 hl (by decide) rfl (fun ls hl => ?_)
          refine lv_iload_n hx hb dX4_mask_76 rfl (lv_at hl 2 rfl) ?_
          refine lv_iconst (v := 2) hx hb dX4_mask_77 (by decide) ?_
          refine lv_icmp_ne (tgt := 131) hx hb dX4_mask_78 (by decide) (fun c17 => ?_) (fun c17 => ?_)
          · replace hw := And.left hw c17
            exact J131 _ _ _ _ _ _ _ hw hk _ _ _ hP hD hS (lv_sub hl [1, 2, 3, 4, 5, 0] rfl)
          · replace hw := And.right hw c17
            refine lv_aload_n hx hb dX4_mask_81 rfl (lv_at hl 1 rfl) ?_
            refine lv_iload_n hx hb dX4_mask_82 rfl (lv_at hl 4 rfl) ?_
            refine lv_iload hx hb dX4_mask_83 (lv_at hl 5 rfl) ?_
            have hPc : va_P (dC, dI) vwCl (w_md gm cA um) _ := hP
            have hDc := hD.sub (ws' := (w_md gm cA um)) [0, 1, 2, 3, 4, 5, 6, 7, 8, 9, 10, 11, 12, 13, 14, 15] (by decide) rfl
            have hFc := va_free (wc := (w_md gm cA um)) hD hS hA [0, 1, 2, 3, 4, 5, 6, 7, 8, 9, 10, 11, 12, 13, 14, 15] rfl
            refine va_callv (va_runV (As := [.int x3, .int x4]) (rest := []) ⟨hx, hb, hml, hown, hts⟩ (c_X4_result l dC dI cA gm _ um x3 x4 _ hw) (gcV 2 hts m640 m637 m639 m11 m24 rfl rfl (by decide +kernel) ⟨Nat.le_of_ble_eq_true rfl, Nat.le_of_ble_eq_true rfl⟩) ⟨xbl2, va_recv hK hPc (ci := 3) (q0 := 0) rfl rfl, fun U hU hW => ⟨rfl, by rw [hU], by rw [hU]; exact hPc, va_K.moved hW.alike hK, hDc.weaken (fun _ _ _ _ => trivial)⟩⟩ rfl rfl hl.1 rfl (lv_room (Nat.le_of_ble_eq_true rfl)) dX4_mask_85 ⟨Nat.le_of_ble_eq_true rfl, Nat.le_of_ble_eq_true rfl⟩) hS (fun q _ h => hFc q h) hFc (fun u t H1 locs ht hvm hw hB hz1 hk1 hS => ?_)
            obtain ⟨um10, e_u⟩ : ∃ z, z = u := ⟨_, rfl⟩
            subst e_u
            obtain ⟨hP1, hK1, hD1⟩ := hB
            rw [ht] at hP1
            have hP : va_P (dC, dI) vwCl (w_md gm cA um10) H1 := hP1
            have hD : va_D A (w_md gm cA um10) := hD1.weaken (fun k q hk h => hFc q.1 h)
            clear hP1 hD1 hK1 hk1 hz1 hFc hDc hPc ht
            generalize H1 = H at hP hS ⊢
            refine lv_iconst (v := 0) hx hb dX4_mask_88 (by decide) ?_
            refine lv_istore (lv' := [(6, .int 0), (5, .int v4), (0, .ref (gm 0)), (1, .int x1), (2, .int x2), (3, .int x3), (4, .int x4)]) hx hb dX4_mask_89 hl (by decide) rfl (fun ls hl => ?_)
            obtain ⟨N91, hw⟩ := hw
            refine L91 _ _ _ _ _ _ (fun um15 hw H locs ls hP hD hS hl => ?_) N91 _ _ hw _ _ _ hP hD hS (lv_sub hl [2, 3, 4, 5, 6, 1, 0] rfl)
            refine lv_aload_n hx hb dX4_mask_122 rfl (lv_at hl 0 rfl) ?_
            refine va_get (D := (dC, dI)) (ci := 3) (v := .ref (gm 12)) (C := RX4) (T := TX4) (N := 23) hx hb hts iX4 hown hK hP 0 rfl rfl 19 (by decide) (hts _ (xm m547)) (fun _ h9 => h9) rfl dX4_mask_123 ?_
            have hPc := hP.sub (ws' := (w_a3 (gm 12) cA (um15 12))) [12] rfl
            refine vp_callSi (va_Run.run (va_runS (As := [.ref (gm 12)]) (rest := []) ⟨hx, hb, hml, hown, hts⟩ (c_X4_lum l dC dI cA (gm 12) (um15 12) _ hw) (gcS 1 hts m687 m685 m686 m24 rfl rfl (by decide +kernel) ⟨Nat.le_of_ble_eq_true rfl, Nat.le_of_ble_eq_true rfl⟩) ⟨xbl1, fun U hU hW => ⟨rfl, by rw [hU]; exact hPc, va_K.moved hW.alike hK⟩⟩ rfl rfl hl.1 rfl (lv_room (Nat.le_of_ble_eq_true rfl)) dX4_mask_126 ⟨Nat.le_of_ble_eq_true rfl, Nat.le_of_ble_eq_true rfl⟩)) (fun r16 hw => ?_)
            refine lv_istore (lv' := [(5, .int r16), (0, .ref (gm 0)), (1, .int x1), (2, .int x2), (3, .int x3), (4, .int x4)]) hx hb dX4_mask_129 hl (by decide) rfl (fun ls hl => ?_)
            exact J131 _ _ _ _ _ _ _ hw hk _ _ _ hP hD hS (lv_sub hl [1, 2, 3, 4, 5, 0] rfl)
  have J28 : ∀ (um : Nat → Nat → Int32) (x1 : Int32) (x2 : Int32) (s0 : Int32), wp_X4_mask_28 P um x1 x2 s0 → ∀ (H : Heap) (locs : List Loc) (ls : Array Slot), va_P (dC, dI) vwCl (w_md gm cA um) H → va_D A (w_md gm cA um) → va_S A s.heap H locs → lv_has ls 7 [(0, .ref (gm 0)), (1, .int x1), (2, .int x2)] → W p l e (headSpec wX4_mask rm_X4_mask).room s m args below meth c H locs 0 0 (MQ below (va_Qi (fun r (u : (Nat → Nat → Int32)) => P r u) (xB dC dI cA (fun u : (Nat → Nat → Int32) => w_md gm cA u) A) A) args s 0 0 A) (F0 m 28 ls [.int s0, .ref (gm 0)]) := by
    intro  um x1 x2 s0 hw H locs ls hP hD hS hl
    obtain ⟨um1, e_um1⟩ : ∃ z, z = st um 0 0 s0 := ⟨_, rfl⟩
    refine va_put (D := (dC, dI)) (ci := 3) (v := .int s0) (ty := .int) (C := RX4) (T := TX4) (N := 23) hx hb hts iX4 tyX4 tyX4_ok nmX4 hown hK hP hD hS 0 rfl rfl 0 (by decide) (hts _ (xm m528)) (fun _ h9 => h9) rfl (by decide +kernel) rfl rfl (Nat.le_of_ble_eq_true rfl) dX4_mask_28 (fun H locs hP hD hS => ?_)
    replace hw := hw um1 e_um1
    have hP : va_P (dC, dI) vwCl (w_md gm cA um1) H := by rw [e_um1]; exact hP
    have hD : va_D A (w_md gm cA um1) := by rw [e_um1]; exact hD
    refine lv_aload_n hx hb dX4_mask_31 rfl (lv_at hl 0 rfl) ?_
    refine va_get (D := (dC, dI)) (ci := 3) (v := .int (um1 0 0)) (C := RX4) (T := TX4) (N := 23) hx hb hts iX4 hown hK hP 0 rfl rfl 0 (by decide) (hts _ (xm m528)) (fun _ h9 => h9) rfl dX4_mask_32 ?_
    refine lv_if_le (tgt := 40) hx hb dX4_mask_35 (by decide) (fun c21 => ?_) (fun c21 => ?_)
    · replace hw := And.left hw c21
      refine lv_aload_n hx hb dX4_mask_40 rfl (lv_at hl 0 rfl) ?_
      have hPc : va_P (dC, dI) vwCl (w_md gm cA um1) _ := hP
      have hDc := hD.sub (ws' := (w_md gm cA um1)) [0, 1, 2, 3, 4, 5, 6, 7, 8, 9, 10, 11, 12, 13, 14, 15] (by decide) rfl
      have hFc := va_free (wc := (w_md gm cA um1)) hD hS hA [0, 1, 2, 3, 4, 5, 6, 7, 8, 9, 10, 11, 12, 13, 14, 15] rfl
      refine va_calli (va_runV (As := []) (rest := []) ⟨hx, hb, hml, hown, hts⟩ (c_X4_leave l dC dI cA gm _ um1 _ hw) (gcV 0 hts m632 m629 m631 m9 m24 rfl rfl (by decide +kernel) ⟨Nat.le_of_ble_eq_true rfl, Nat.le_of_ble_eq_true rfl⟩) ⟨xbl2, va_recv hK hPc (ci := 3) (q0 := 0) rfl rfl, fun U hU hW => ⟨rfl, by rw [hU], by rw [hU]; exact hPc, va_K.moved hW.alike hK, hDc.weaken (fun _ _ _ _ => trivial)⟩⟩ rfl rfl hl.1 rfl (lv_room (Nat.le_of_ble_eq_true rfl)) dX4_mask_41 ⟨Nat.le_of_ble_eq_true rfl, Nat.le_of_ble_eq_true rfl⟩) hS (fun q _ h => hFc q h) hFc (fun r2 u t H1 locs ht hvm hw hB hz1 hk1 hS => ?_)
      obtain ⟨um3, e_u⟩ : ∃ z, z = u := ⟨_, rfl⟩
      subst e_u
      obtain ⟨hP1, hK1, hD1⟩ := hB
      rw [ht] at hP1
      have hP : va_P (dC, dI) vwCl (w_md gm cA um3) H1 := hP1
      have hD : va_D A (w_md gm cA um3) := hD1.weaken (fun k q hk h => hFc q.1 h)
      clear hP1 hD1 hK1 hk1 hz1 hFc hDc hPc ht
      generalize H1 = H at hP hS ⊢
      refine lv_istore_n (lv' := [(3, .int r2), (0, .ref (gm 0)), (1, .int x1), (2, .int x2)]) hx hb dX4_mask_44 rfl hl (by decide) rfl (fun ls hl => ?_)
      refine lv_iconst (v := 0) hx hb dX4_mask_45 (by decide) ?_
      refine lv_istore (lv' := [(4, .int 0), (3, .int r2), (0, .ref (gm 0)), (1, .int x1), (2, .int x2)]) hx hb dX4_mask_46 hl (by decide) rfl (fun ls hl => ?_)
      obtain ⟨N48, hw⟩ := hw
      refine L48 _ _ _ _ (fun um20 hw H locs ls hP hD hS hl => ?_) N48 _ _ hw _ _ _ hP hD hS (lv_sub hl [2, 3, 4, 1, 0] rfl)
      refine lv_aload_n hx hb dX4_mask_164 rfl (lv_at hl 0 rfl) ?_
      refine va_get (D := (dC, dI)) (ci := 3) (v := .int (um20 0 4)) (C := RX4) (T := TX4) (N := 23) hx hb hts iX4 hown hK hP 0 rfl rfl 4 (by decide) (hts _ (xm m532)) (fun _ h9 => h9) rfl dX4_mask_165 ?_
      exact W.iret hx hb hr (fun t ht hW => ⟨⟨_, um20, rfl, hw, by rw [ht]; exact hP, va_K.moved hW.alike hK, hD⟩, hS.F ht⟩) hS.2.2 dX4_mask_168
    · replace hw := And.right hw c21
      refine lv_iconst (v := 0) hx hb dX4_mask_38 (by decide) ?_
      exact W.iret hx hb hr (fun t ht hW => ⟨⟨_, um1, rfl, hw, by rw [ht]; exact hP, va_K.moved hW.alike hK, hD⟩, hS.F ht⟩) hS.2.2 dX4_mask_39
  have J23 : ∀ (um : Nat → Nat → Int32) (x1 : Int32) (x2 : Int32), wp_X4_mask_23 P um x1 x2 → ∀ (H : Heap) (locs : List Loc) (ls : Array Slot), va_P (dC, dI) vwCl (w_md gm cA um) H → va_D A (w_md gm cA um) → va_S A s.heap H locs → lv_has ls 7 [(0, .ref (gm 0)), (1, .int x1), (2, .int x2)] → W p l e (headSpec wX4_mask rm_X4_mask).room s m args below meth c H locs 0 0 (MQ below (va_Qi (fun r (u : (Nat → Nat → Int32)) => P r u) (xB dC dI cA (fun u : (Nat → Nat → Int32) => w_md gm cA u) A) A) args s 0 0 A) (F0 m 23 ls [.ref (gm 0)]) := by
    intro  um x1 x2 hw H locs ls hP hD hS hl
    refine lv_iconst (v := 2) hx hb dX4_mask_23 (by decide) ?_
    refine lv_goto (tgt := 28) hx hb dX4_mask_24 (by decide) ?_
    exact J28 _ _ _ _ hw _ _ _ hP hD hS (lv_sub hl [0, 1, 2] rfl)
  have hl := lv_entry ([.ref (gm 0), .int p0, .int p1]) (n := 7) (Nat.le_of_ble_eq_true rfl)
  rw [show entryFrame m args 7 = entryFrame m (([.ref (gm 0), .int p0, .int p1] : List Value).toArray) 7 from by rw [hargs], lg_entry_eq]
  generalize (lg_sl ([.ref (gm 0), .int p0, .int p1]) ++ List.replicate (7 - (lg_sl ([.ref (gm 0), .int p0, .int p1])).length) Slot.unset).toArray = ls at hl ⊢
  have hl : lv_has ls 7 [(0, .ref (gm 0)), (1, .int p0), (2, .int p1)] := hl
  have hP : va_P (dC, dI) vwCl (w_md gm cA um) s.heap := hP
  refine lv_aload_n hx hb dX4_mask_0 rfl (lv_at hl 0 rfl) ?_
  refine lv_aload_n hx hb dX4_mask_1 rfl (lv_at hl 0 rfl) ?_
  refine va_get (D := (dC, dI)) (ci := 3) (v := .int (um 0 4)) (C := RX4) (T := TX4) (N := 23) hx hb hts iX4 hown hK hP 0 rfl rfl 4 (by decide) (hts _ (xm m532)) (fun _ h9 => h9) rfl dX4_mask_2 ?_
  refine lv_iconst (v := 1) hx hb dX4_mask_5 (by decide) ?_
  refine lv_icmp_ne (tgt := 13) hx hb dX4_mask_6 (by decide) (fun c24 => ?_) (fun c24 => ?_)
  · replace hw := And.left hw c24
    refine lv_iload_n hx hb dX4_mask_13 rfl (lv_at hl 1 rfl) ?_
    refine lv_iconst (v := 1) hx hb dX4_mask_14 (by decide) ?_
    refine lv_icmp_lt (tgt := 23) hx hb dX4_mask_15 (by decide) (fun c23 => ?_) (fun c23 => ?_)
    · replace hw := And.left hw c23
      exact J23 _ _ _ hw _ _ _ hP hD hS (lv_sub hl [0, 1, 2] rfl)
    · replace hw := And.right hw c23
      refine lv_iload_n hx hb dX4_mask_18 rfl (lv_at hl 1 rfl) ?_
      refine lv_iconst (v := 2) hx hb dX4_mask_19 (by decide) ?_
      refine lv_icmp_le (tgt := 27) hx hb dX4_mask_20 (by decide) (fun c22 => ?_) (fun c22 => ?_)
      · replace hw := And.left hw c22
        refine lv_iconst (v := 0) hx hb dX4_mask_27 (by decide) ?_
        exact J28 _ _ _ _ hw _ _ _ hP hD hS (lv_sub hl [0, 1, 2] rfl)
      · replace hw := And.right hw c22
        exact J23 _ _ _ hw _ _ _ hP hD hS (lv_sub hl [0, 1, 2] rfl)
  · replace hw := And.right hw c24
    refine lv_iconst (v := 1) hx hb dX4_mask_9 (by decide) ?_
    refine lv_goto (tgt := 28) hx hb dX4_mask_10 (by decide) ?_
    exact J28 _ _ _ _ hw _ _ _ hP hD hS (lv_sub hl [0, 1, 2] rfl)
abbrev wX4_unmask : List Cond := Cond.code yX4_unmask cX4_unmask 1 none :: gG
def wp_X4_unmask (um : Nat → Nat → Int32) (P : (Nat → Nat → Int32) → Prop) : Prop :=
  ∀ um1 : Nat → Nat → Int32, um1 = st um 0 0 0 → ∀ um2 : Nat → Nat → Int32, um2 = st um1 0 6 0 → P um2
abbrev rm_X4_unmask : Room := { frames := 0, cells := 0, slots := 0, locals := 0 }
set_option maxHeartbeats 4000000 in
set_option maxRecDepth 100000 in
theorem c_X4_unmask (l : Launch) (dC : Nat → ClassId) (dI : Nat → Nat → Nat) (cA : Nat → ClassId) (gm : Nat → Nat) (sz : Nat) (um : Nat → Nat → Int32) (P : (Nat → Nat → Int32) → Prop) (hw : wp_X4_unmask um P) : Met l yX4_unmask wX4_unmask rm_X4_unmask (xP2 dC dI cA (w_md gm cA um) sz [.ref (gm 0)]) (va_Qv (fun (u : (Nat → Nat → Int32)) => P u) (xB dC dI cA (fun u : (Nat → Nat → Int32) => w_md gm cA u) (va_A (w_md gm cA um) sz)) (va_A (w_md gm cA um) sz)) 0 0 (va_A (w_md gm cA um) sz) := by
  refine Met.ofW (cc := cX4_unmask) (maxL := 1) (ret := none) (by decide) rfl ?_
  intro p e s m args below meth c s₁ B hml hv
  obtain ⟨hargs, hsz, hP, hK, hD0⟩ := hv
  have hx := B.exec
  have hb := B.bytes
  have hr := B.returns
  have hts := atoms_spec (ws := wX4_unmask) B.pre
  have hown : s.vm.findClass RX4 = some m.cls := findClass_of_methodNamed B.named
  have hlocks := B.notSynchronized
  subst hsz
  have hD := hD0.self (sz := s.heap.size)
  generalize hAe : va_A (w_md gm cA um) s.heap.size = A at hD ⊢
  have hA : ∀ q : Nat, s.heap.size ≤ q → A q := fun q h => by rw [← hAe]; exact Or.inr h
  have hS : va_S A s.heap s.heap [] := va_S.rf
  clear hAe hD0
  have hl := lv_entry ([.ref (gm 0)]) (n := 1) (Nat.le_of_ble_eq_true rfl)
  rw [show entryFrame m args 1 = entryFrame m (([.ref (gm 0)] : List Value).toArray) 1 from by rw [hargs], lg_entry_eq]
  generalize (lg_sl ([.ref (gm 0)]) ++ List.replicate (1 - (lg_sl ([.ref (gm 0)])).length) Slot.unset).toArray = ls at hl ⊢
  have hl : lv_has ls 1 [(0, .ref (gm 0))] := hl
  have hP : va_P (dC, dI) vwCl (w_md gm cA um) s.heap := hP
  refine lv_aload_n hx hb dX4_unmask_0 rfl (lv_at hl 0 rfl) ?_
  refine lv_iconst (v := 0) hx hb dX4_unmask_1 (by decide) ?_
  obtain ⟨um1, e_um1⟩ : ∃ z, z = st um 0 0 0 := ⟨_, rfl⟩
  refine va_put (D := (dC, dI)) (ci := 3) (v := .int 0) (ty := .int) (C := RX4) (T := TX4) (N := 23) hx hb hts iX4 tyX4 tyX4_ok nmX4 hown hK hP hD hS 0 rfl rfl 0 (by decide) (hts _ (xm m528)) (fun _ h9 => h9) rfl (by decide +kernel) rfl rfl (Nat.le_of_ble_eq_true rfl) dX4_unmask_2 (fun H locs hP hD hS => ?_)
  replace hw := hw um1 e_um1
  have hP : va_P (dC, dI) vwCl (w_md gm cA um1) H := by rw [e_um1]; exact hP
  have hD : va_D A (w_md gm cA um1) := by rw [e_um1]; exact hD
  refine lv_aload_n hx hb dX4_unmask_5 rfl (lv_at hl 0 rfl) ?_
  refine lv_iconst (v := 0) hx hb dX4_unmask_6 (by decide) ?_
  obtain ⟨um2, e_um2⟩ : ∃ z, z = st um1 0 6 0 := ⟨_, rfl⟩
  refine va_put (D := (dC, dI)) (ci := 3) (v := .int 0) (ty := .boolean) (C := RX4) (T := TX4) (N := 23) hx hb hts iX4 tyX4 tyX4_ok nmX4 hown hK hP hD hS 0 rfl rfl 13 (by decide) (hts _ (xm m541)) (fun _ h9 => h9) rfl (by decide +kernel) rfl rfl (Nat.le_of_ble_eq_true rfl) dX4_unmask_7 (fun H locs hP hD hS => ?_)
  replace hw := hw um2 e_um2
  have hP : va_P (dC, dI) vwCl (w_md gm cA um2) H := by rw [e_um2]; exact hP
  have hD : va_D A (w_md gm cA um2) := by rw [e_um2]; exact hD
  exact W.vret hx hb hr (fun t ht hW => ⟨⟨um2, rfl, hw, by rw [ht]; exact hP, va_K.moved hW.alike hK, hD⟩, hS.F ht⟩) hS.2.2 dX4_unmask_10
abbrev wX4_colour : List Cond := Cond.code yX4_colour cX4_colour 3 none :: gG
def wp_X4_colour_24 (P : (Nat → Nat → Int32) → Prop) (um : Nat → Nat → Int32) (x1 : Int32) (x2 : Int32) (s0 : Int32) : Prop :=
  ∀ um3 : Nat → Nat → Int32, um3 = st um 0 0 s0 → ((¬ (um3 0 0) = 0 → P um3) ∧
  ((um3 0 0) = 0 → (vp_in x1 3 ∧ ∀ um4 : Nat → Nat → Int32, um4 = st um3 10 x1.toNatClampNeg x2 → P um4)))
def wp_X4_colour (um : Nat → Nat → Int32) (p0 : Int32) (p1 : Int32) (P : (Nat → Nat → Int32) → Prop) : Prop :=
  wp_X4_isByte p1 (fun r1 => ((¬ r1 = 0 → wp_X4_isBand p0 (fun r2 => ((¬ r2 = 0 → wp_X4_colour_24 P um p0 p1 0) ∧
  (r2 = 0 → wp_X4_colour_24 P um p0 p1 2)))) ∧
  (r1 = 0 → wp_X4_colour_24 P um p0 p1 1)))
abbrev rm_X4_colour : Room := { frames := 1, cells := 0, slots := 0, locals := 20 }
set_option maxHeartbeats 4000000 in
set_option maxRecDepth 100000 in
theorem c_X4_colour (l : Launch) (dC : Nat → ClassId) (dI : Nat → Nat → Nat) (cA : Nat → ClassId) (gm : Nat → Nat) (sz : Nat) (um : Nat → Nat → Int32) (p0 : Int32) (p1 : Int32) (P : (Nat → Nat → Int32) → Prop) (hw : wp_X4_colour um p0 p1 P) : Met l yX4_colour wX4_colour rm_X4_colour (xP2 dC dI cA (w_md gm cA um) sz [.ref (gm 0), .int p0, .int p1]) (va_Qv (fun (u : (Nat → Nat → Int32)) => P u) (xB dC dI cA (fun u : (Nat → Nat → Int32) => w_md gm cA u) (va_A (w_md gm cA um) sz)) (va_A (w_md gm cA um) sz)) 0 0 (va_A (w_md gm cA um) sz) := by
  refine Met.ofW (cc := cX4_colour) (maxL := 3) (ret := none) (by decide) rfl ?_
  intro p e s m args below meth c s₁ B hml hv
  obtain ⟨hargs, hsz, hP, hK, hD0⟩ := hv
  have hx := B.exec
  have hb := B.bytes
  have hr := B.returns
  have hts := atoms_spec (ws := wX4_colour) B.pre
  have hown : s.vm.findClass RX4 = some m.cls := findClass_of_methodNamed B.named
  have hlocks := B.notSynchronized
  subst hsz
  have hD := hD0.self (sz := s.heap.size)
  generalize hAe : va_A (w_md gm cA um) s.heap.size = A at hD ⊢
  have hA : ∀ q : Nat, s.heap.size ≤ q → A q := fun q h => by rw [← hAe]; exact Or.inr h
  have hS : va_S A s.heap s.heap [] := va_S.rf
  clear hAe hD0
  have J24 : ∀ (um : Nat → Nat → Int32) (x1 : Int32) (x2 : Int32) (s0 : Int32), wp_X4_colour_24 P um x1 x2 s0 → ∀ (H : Heap) (locs : List Loc) (ls : Array Slot), va_P (dC, dI) vwCl (w_md gm cA um) H → va_D A (w_md gm cA um) → va_S A s.heap H locs → lv_has ls 3 [(0, .ref (gm 0)), (1, .int x1), (2, .int x2)] → W p l e (headSpec wX4_colour rm_X4_colour).room s m args below meth c H locs 0 0 (MQ below (va_Qv (fun (u : (Nat → Nat → Int32)) => P u) (xB dC dI cA (fun u : (Nat → Nat → Int32) => w_md gm cA u) A) A) args s 0 0 A) (F0 m 24 ls [.int s0, .ref (gm 0)]) := by
    intro  um x1 x2 s0 hw H locs ls hP hD hS hl
    obtain ⟨um3, e_um3⟩ : ∃ z, z = st um 0 0 s0 := ⟨_, rfl⟩
    refine va_put (D := (dC, dI)) (ci := 3) (v := .int s0) (ty := .int) (C := RX4) (T := TX4) (N := 23) hx hb hts iX4 tyX4 tyX4_ok nmX4 hown hK hP hD hS 0 rfl rfl 0 (by decide) (hts _ (xm m528)) (fun _ h9 => h9) rfl (by decide +kernel) rfl rfl (Nat.le_of_ble_eq_true rfl) dX4_colour_24 (fun H locs hP hD hS => ?_)
    replace hw := hw um3 e_um3
    have hP : va_P (dC, dI) vwCl (w_md gm cA um3) H := by rw [e_um3]; exact hP
    have hD : va_D A (w_md gm cA um3) := by rw [e_um3]; exact hD
    refine lv_aload_n hx hb dX4_colour_27 rfl (lv_at hl 0 rfl) ?_
    refine va_get (D := (dC, dI)) (ci := 3) (v := .int (um3 0 0)) (C := RX4) (T := TX4) (N := 23) hx hb hts iX4 hown hK hP 0 rfl rfl 0 (by decide) (hts _ (xm m528)) (fun _ h9 => h9) rfl dX4_colour_28 ?_
    refine lv_if_ne (tgt := 41) hx hb dX4_colour_31 (by decide) (fun c5 => ?_) (fun c5 => ?_)
    · replace hw := And.left hw c5
      exact W.vret hx hb hr (fun t ht hW => ⟨⟨um3, rfl, hw, by rw [ht]; exact hP, va_K.moved hW.alike hK, hD⟩, hS.F ht⟩) hS.2.2 dX4_colour_41
    · replace hw := And.right hw c5
      refine lv_aload_n hx hb dX4_colour_34 rfl (lv_at hl 0 rfl) ?_
      refine va_get (D := (dC, dI)) (ci := 3) (v := .ref (gm 10)) (C := RX4) (T := TX4) (N := 23) hx hb hts iX4 hown hK hP 0 rfl rfl 16 (by decide) (hts _ (xm m544)) (fun _ h9 => h9) rfl dX4_colour_35 ?_
      refine lv_iload_n hx hb dX4_colour_38 rfl (lv_at hl 1 rfl) ?_
      refine lv_iload_n hx hb dX4_colour_39 rfl (lv_at hl 2 rfl) ?_
      obtain ⟨um4, e_um4⟩ : ∃ z, z = st um3 10 x1.toNatClampNeg x2 := ⟨_, rfl⟩
      refine va_iast hx hb hK hP hD hS 10 0 rfl rfl (And.left hw) dX4_colour_40 (fun H locs hP hD hS => ?_)
      replace hw := And.right hw
      replace hw := hw um4 e_um4
      have hP : va_P (dC, dI) vwCl (w_md gm cA um4) H := by rw [e_um4]; exact hP
      have hD : va_D A (w_md gm cA um4) := by rw [e_um4]; exact hD
      exact W.vret hx hb hr (fun t ht hW => ⟨⟨um4, rfl, hw, by rw [ht]; exact hP, va_K.moved hW.alike hK, hD⟩, hS.F ht⟩) hS.2.2 dX4_colour_41
  have hl := lv_entry ([.ref (gm 0), .int p0, .int p1]) (n := 3) (Nat.le_of_ble_eq_true rfl)
  rw [show entryFrame m args 3 = entryFrame m (([.ref (gm 0), .int p0, .int p1] : List Value).toArray) 3 from by rw [hargs], lg_entry_eq]
  generalize (lg_sl ([.ref (gm 0), .int p0, .int p1]) ++ List.replicate (3 - (lg_sl ([.ref (gm 0), .int p0, .int p1])).length) Slot.unset).toArray = ls at hl ⊢
  have hl : lv_has ls 3 [(0, .ref (gm 0)), (1, .int p0), (2, .int p1)] := hl
  have hP : va_P (dC, dI) vwCl (w_md gm cA um) s.heap := hP
  refine lv_aload_n hx hb dX4_colour_0 rfl (lv_at hl 0 rfl) ?_
  refine lv_iload_n hx hb dX4_colour_1 rfl (lv_at hl 2 rfl) ?_
  refine vp_callSi (va_Run.run (va_runS (As := [.int p1]) (rest := [.ref (gm 0)]) ⟨hx, hb, hml, hown, hts⟩ (c_X4_isByte l p1 _ hw) (gcS 1 hts m628 m626 m627 m24 rfl rfl (by decide +kernel) ⟨Nat.le_of_ble_eq_true rfl, Nat.le_of_ble_eq_true rfl⟩) ⟨xbl0, fun U hU hW => ⟨rfl, trivial⟩⟩ rfl rfl hl.1 rfl (lv_room (Nat.le_of_ble_eq_true rfl)) dX4_colour_2 ⟨Nat.le_of_ble_eq_true rfl, Nat.le_of_ble_eq_true rfl⟩)) (fun r1 hw => ?_)
  refine lv_if_ne (tgt := 12) hx hb dX4_colour_5 (by decide) (fun c7 => ?_) (fun c7 => ?_)
  · replace hw := And.left hw c7
    refine lv_iload_n hx hb dX4_colour_12 rfl (lv_at hl 1 rfl) ?_
    refine vp_callSi (va_Run.run (va_runS (As := [.int p0]) (rest := [.ref (gm 0)]) ⟨hx, hb, hml, hown, hts⟩ (c_X4_isBand l p0 _ hw) (gcS 1 hts m709 m707 m708 m24 rfl rfl (by decide +kernel) ⟨Nat.le_of_ble_eq_true rfl, Nat.le_of_ble_eq_true rfl⟩) ⟨xbl0, fun U hU hW => ⟨rfl, trivial⟩⟩ rfl rfl hl.1 rfl (lv_room (Nat.le_of_ble_eq_true rfl)) dX4_colour_13 ⟨Nat.le_of_ble_eq_true rfl, Nat.le_of_ble_eq_true rfl⟩)) (fun r2 hw => ?_)
    refine lv_if_ne (tgt := 23) hx hb dX4_colour_16 (by decide) (fun c6 => ?_) (fun c6 => ?_)
    · replace hw := And.left hw c6
      refine lv_iconst (v := 0) hx hb dX4_colour_23 (by decide) ?_
      exact J24 _ _ _ _ hw _ _ _ hP hD hS (lv_sub hl [0, 1, 2] rfl)
    · replace hw := And.right hw c6
      refine lv_iconst (v := 2) hx hb dX4_colour_19 (by decide) ?_
      refine lv_goto (tgt := 24) hx hb dX4_colour_20 (by decide) ?_
      exact J24 _ _ _ _ hw _ _ _ hP hD hS (lv_sub hl [0, 1, 2] rfl)
  · replace hw := And.right hw c7
    refine lv_iconst (v := 1) hx hb dX4_colour_8 (by decide) ?_
    refine lv_goto (tgt := 24) hx hb dX4_colour_9 (by decide) ?_
    exact J24 _ _ _ _ hw _ _ _ hP hD hS (lv_sub hl [0, 1, 2] rfl)
abbrev wX4_stays : List Cond := Cond.code yX4_stays cX4_stays 3 none :: gG
def wp_X4_stays_13 (P : (Nat → Nat → Int32) → Prop) (um : Nat → Nat → Int32) (x1 : Int32) (x2 : Int32) (s0 : Int32) : Prop :=
  ∀ um2 : Nat → Nat → Int32, um2 = st um 0 0 s0 → ((¬ (um2 0 0) = 0 → P um2) ∧
  ((um2 0 0) = 0 → (vp_in x1 3 ∧ ∀ um3 : Nat → Nat → Int32, um3 = st um2 11 x1.toNatClampNeg (vp_nar .boolean x2) → P um3)))
def wp_X4_stays (um : Nat → Nat → Int32) (p0 : Int32) (p1 : Int32) (P : (Nat → Nat → Int32) → Prop) : Prop :=
  wp_X4_isBand p0 (fun r1 => ((r1 = 0 → wp_X4_stays_13 P um p0 p1 1) ∧
  (¬ r1 = 0 → wp_X4_stays_13 P um p0 p1 0)))
abbrev rm_X4_stays : Room := { frames := 1, cells := 0, slots := 0, locals := 20 }
set_option maxHeartbeats 4000000 in
set_option maxRecDepth 100000 in
theorem c_X4_stays (l : Launch) (dC : Nat → ClassId) (dI : Nat → Nat → Nat) (cA : Nat → ClassId) (gm : Nat → Nat) (sz : Nat) (um : Nat → Nat → Int32) (p0 : Int32) (p1 : Int32) (P : (Nat → Nat → Int32) → Prop) (hw : wp_X4_stays um p0 p1 P) : Met l yX4_stays wX4_stays rm_X4_stays (xP2 dC dI cA (w_md gm cA um) sz [.ref (gm 0), .int p0, .int p1]) (va_Qv (fun (u : (Nat → Nat → Int32)) => P u) (xB dC dI cA (fun u : (Nat → Nat → Int32) => w_md gm cA u) (va_A (w_md gm cA um) sz)) (va_A (w_md gm cA um) sz)) 0 0 (va_A (w_md gm cA um) sz) := by
  refine Met.ofW (cc := cX4_stays) (maxL := 3) (ret := none) (by decide) rfl ?_
  intro p e s m args below meth c s₁ B hml hv
  obtain ⟨hargs, hsz, hP, hK, hD0⟩ := hv
  have hx := B.exec
  have hb := B.bytes
  have hr := B.returns
  have hts := atoms_spec (ws := wX4_stays) B.pre
  have hown : s.vm.findClass RX4 = some m.cls := findClass_of_methodNamed B.named
  have hlocks := B.notSynchronized
  subst hsz
  have hD := hD0.self (sz := s.heap.size)
  generalize hAe : va_A (w_md gm cA um) s.heap.size = A at hD ⊢
  have hA : ∀ q : Nat, s.heap.size ≤ q → A q := fun q h => by rw [← hAe]; exact Or.inr h
  have hS : va_S A s.heap s.heap [] := va_S.rf
  clear hAe hD0
  have J13 : ∀ (um : Nat → Nat → Int32) (x1 : Int32) (x2 : Int32) (s0 : Int32), wp_X4_stays_13 P um x1 x2 s0 → ∀ (H : Heap) (locs : List Loc) (ls : Array Slot), va_P (dC, dI) vwCl (w_md gm cA um) H → va_D A (w_md gm cA um) → va_S A s.heap H locs → lv_has ls 3 [(0, .ref (gm 0)), (1, .int x1), (2, .int x2)] → W p l e (headSpec wX4_stays rm_X4_stays).room s m args below meth c H locs 0 0 (MQ below (va_Qv (fun (u : (Nat → Nat → Int32)) => P u) (xB dC dI cA (fun u : (Nat → Nat → Int32) => w_md gm cA u) A) A) args s 0 0 A) (F0 m 13 ls [.int s0, .ref (gm 0)]) := by
    intro  um x1 x2 s0 hw H locs ls hP hD hS hl
    obtain ⟨um2, e_um2⟩ : ∃ z, z = st um 0 0 s0 := ⟨_, rfl⟩
    refine va_put (D := (dC, dI)) (ci := 3) (v := .int s0) (ty := .int) (C := RX4) (T := TX4) (N := 23) hx hb hts iX4 tyX4 tyX4_ok nmX4 hown hK hP hD hS 0 rfl rfl 0 (by decide) (hts _ (xm m528)) (fun _ h9 => h9) rfl (by decide +kernel) rfl rfl (Nat.le_of_ble_eq_true rfl) dX4_stays_13 (fun H locs hP hD hS => ?_)
    replace hw := hw um2 e_um2
    have hP : va_P (dC, dI) vwCl (w_md gm cA um2) H := by rw [e_um2]; exact hP
    have hD : va_D A (w_md gm cA um2) := by rw [e_um2]; exact hD
    refine lv_aload_n hx hb dX4_stays_16 rfl (lv_at hl 0 rfl) ?_
    refine va_get (D := (dC, dI)) (ci := 3) (v := .int (um2 0 0)) (C := RX4) (T := TX4) (N := 23) hx hb hts iX4 hown hK hP 0 rfl rfl 0 (by decide) (hts _ (xm m528)) (fun _ h9 => h9) rfl dX4_stays_17 ?_
    refine lv_if_ne (tgt := 30) hx hb dX4_stays_20 (by decide) (fun c4 => ?_) (fun c4 => ?_)
    · replace hw := And.left hw c4
      exact W.vret hx hb hr (fun t ht hW => ⟨⟨um2, rfl, hw, by rw [ht]; exact hP, va_K.moved hW.alike hK, hD⟩, hS.F ht⟩) hS.2.2 dX4_stays_30
    · replace hw := And.right hw c4
      refine lv_aload_n hx hb dX4_stays_23 rfl (lv_at hl 0 rfl) ?_
      refine va_get (D := (dC, dI)) (ci := 3) (v := .ref (gm 11)) (C := RX4) (T := TX4) (N := 23) hx hb hts iX4 hown hK hP 0 rfl rfl 17 (by decide) (hts _ (xm m545)) (fun _ h9 => h9) rfl dX4_stays_24 ?_
      refine lv_iload_n hx hb dX4_stays_27 rfl (lv_at hl 1 rfl) ?_
      refine lv_iload_n hx hb dX4_stays_28 rfl (lv_at hl 2 rfl) ?_
      obtain ⟨um3, e_um3⟩ : ∃ z, z = st um2 11 x1.toNatClampNeg (vp_nar .boolean x2) := ⟨_, rfl⟩
      refine va_zast hx hb hK hP hD hS 11 1 rfl rfl (And.left hw) dX4_stays_29 (fun H locs hP hD hS => ?_)
      replace hw := And.right hw
      replace hw := hw um3 e_um3
      have hP : va_P (dC, dI) vwCl (w_md gm cA um3) H := by rw [e_um3]; exact hP
      have hD : va_D A (w_md gm cA um3) := by rw [e_um3]; exact hD
      exact W.vret hx hb hr (fun t ht hW => ⟨⟨um3, rfl, hw, by rw [ht]; exact hP, va_K.moved hW.alike hK, hD⟩, hS.F ht⟩) hS.2.2 dX4_stays_30
  have hl := lv_entry ([.ref (gm 0), .int p0, .int p1]) (n := 3) (Nat.le_of_ble_eq_true rfl)
  rw [show entryFrame m args 3 = entryFrame m (([.ref (gm 0), .int p0, .int p1] : List Value).toArray) 3 from by rw [hargs], lg_entry_eq]
  generalize (lg_sl ([.ref (gm 0), .int p0, .int p1]) ++ List.replicate (3 - (lg_sl ([.ref (gm 0), .int p0, .int p1])).length) Slot.unset).toArray = ls at hl ⊢
  have hl : lv_has ls 3 [(0, .ref (gm 0)), (1, .int p0), (2, .int p1)] := hl
  have hP : va_P (dC, dI) vwCl (w_md gm cA um) s.heap := hP
  refine lv_aload_n hx hb dX4_stays_0 rfl (lv_at hl 0 rfl) ?_
  refine lv_iload_n hx hb dX4_stays_1 rfl (lv_at hl 1 rfl) ?_
  refine vp_callSi (va_Run.run (va_runS (As := [.int p0]) (rest := [.ref (gm 0)]) ⟨hx, hb, hml, hown, hts⟩ (c_X4_isBand l p0 _ hw) (gcS 1 hts m709 m707 m708 m24 rfl rfl (by decide +kernel) ⟨Nat.le_of_ble_eq_true rfl, Nat.le_of_ble_eq_true rfl⟩) ⟨xbl0, fun U hU hW => ⟨rfl, trivial⟩⟩ rfl rfl hl.1 rfl (lv_room (Nat.le_of_ble_eq_true rfl)) dX4_stays_2 ⟨Nat.le_of_ble_eq_true rfl, Nat.le_of_ble_eq_true rfl⟩)) (fun r1 hw => ?_)
  refine lv_if_eq (tgt := 12) hx hb dX4_stays_5 (by decide) (fun c5 => ?_) (fun c5 => ?_)
  · replace hw := And.left hw c5
    refine lv_iconst (v := 1) hx hb dX4_stays_12 (by decide) ?_
    exact J13 _ _ _ _ hw _ _ _ hP hD hS (lv_sub hl [0, 1, 2] rfl)
  · replace hw := And.right hw c5
    refine lv_iconst (v := 0) hx hb dX4_stays_8 (by decide) ?_
    refine lv_goto (tgt := 13) hx hb dX4_stays_9 (by decide) ?_
    exact J13 _ _ _ _ hw _ _ _ hP hD hS (lv_sub hl [0, 1, 2] rfl)
abbrev wX4_cover : List Cond := Cond.code yX4_cover cX4_cover 4 none :: gG
def wp_X4_cover_26 (P : (Nat → Nat → Int32) → Prop) (um : Nat → Nat → Int32) (x1 : Int32) (x2 : Int32) (x3 : Int32) (s0 : Int32) : Prop :=
  ∀ um3 : Nat → Nat → Int32, um3 = st um 0 0 s0 → ((¬ (um3 0 0) = 0 → P um3) ∧
  ((um3 0 0) = 0 → wp_X4_pointAt um3 x1 x2 (fun r4 => (vp_in r4 144 ∧ ∀ um5 : Nat → Nat → Int32, um5 = st um3 9 r4.toNatClampNeg x3 → P um5))))
def wp_X4_cover (um : Nat → Nat → Int32) (p0 : Int32) (p1 : Int32) (p2 : Int32) (P : (Nat → Nat → Int32) → Prop) : Prop :=
  wp_X4_isByte p2 (fun r1 => ((¬ r1 = 0 → wp_X4_isPoint um p0 p1 (fun r2 => ((¬ r2 = 0 → wp_X4_cover_26 P um p0 p1 p2 0) ∧
  (r2 = 0 → wp_X4_cover_26 P um p0 p1 p2 2)))) ∧
  (r1 = 0 → wp_X4_cover_26 P um p0 p1 p2 1)))
abbrev rm_X4_cover : Room := { frames := 1, cells := 0, slots := 0, locals := 22 }
set_option maxHeartbeats 4000000 in
set_option maxRecDepth 100000 in
theorem c_X4_cover (l : Launch) (dC : Nat → ClassId) (dI : Nat → Nat → Nat) (cA : Nat → ClassId) (gm : Nat → Nat) (sz : Nat) (um : Nat → Nat → Int32) (p0 : Int32) (p1 : Int32) (p2 : Int32) (P : (Nat → Nat → Int32) → Prop) (hw : wp_X4_cover um p0 p1 p2 P) : Met l yX4_cover wX4_cover rm_X4_cover (xP2 dC dI cA (w_md gm cA um) sz [.ref (gm 0), .int p0, .int p1, .int p2]) (va_Qv (fun (u : (Nat → Nat → Int32)) => P u) (xB dC dI cA (fun u : (Nat → Nat → Int32) => w_md gm cA u) (va_A (w_md gm cA um) sz)) (va_A (w_md gm cA um) sz)) 0 0 (va_A (w_md gm cA um) sz) := by
  refine Met.ofW (cc := cX4_cover) (maxL := 4) (ret := none) (by decide) rfl ?_
  intro p e s m args below meth c s₁ B hml hv
  obtain ⟨hargs, hsz, hP, hK, hD0⟩ := hv
  have hx := B.exec
  have hb := B.bytes
  have hr := B.returns
  have hts := atoms_spec (ws := wX4_cover) B.pre
  have hown : s.vm.findClass RX4 = some m.cls := findClass_of_methodNamed B.named
  have hlocks := B.notSynchronized
  subst hsz
  have hD := hD0.self (sz := s.heap.size)
  generalize hAe : va_A (w_md gm cA um) s.heap.size = A at hD ⊢
  have hA : ∀ q : Nat, s.heap.size ≤ q → A q := fun q h => by rw [← hAe]; exact Or.inr h
  have hS : va_S A s.heap s.heap [] := va_S.rf
  clear hAe hD0
  have J26 : ∀ (um : Nat → Nat → Int32) (x1 : Int32) (x2 : Int32) (x3 : Int32) (s0 : Int32), wp_X4_cover_26 P um x1 x2 x3 s0 → ∀ (H : Heap) (locs : List Loc) (ls : Array Slot), va_P (dC, dI) vwCl (w_md gm cA um) H → va_D A (w_md gm cA um) → va_S A s.heap H locs → lv_has ls 4 [(0, .ref (gm 0)), (1, .int x1), (2, .int x2), (3, .int x3)] → W p l e (headSpec wX4_cover rm_X4_cover).room s m args below meth c H locs 0 0 (MQ below (va_Qv (fun (u : (Nat → Nat → Int32)) => P u) (xB dC dI cA (fun u : (Nat → Nat → Int32) => w_md gm cA u) A) A) args s 0 0 A) (F0 m 26 ls [.int s0, .ref (gm 0)]) := by
    intro  um x1 x2 x3 s0 hw H locs ls hP hD hS hl
    obtain ⟨um3, e_um3⟩ : ∃ z, z = st um 0 0 s0 := ⟨_, rfl⟩
    refine va_put (D := (dC, dI)) (ci := 3) (v := .int s0) (ty := .int) (C := RX4) (T := TX4) (N := 23) hx hb hts iX4 tyX4 tyX4_ok nmX4 hown hK hP hD hS 0 rfl rfl 0 (by decide) (hts _ (xm m528)) (fun _ h9 => h9) rfl (by decide +kernel) rfl rfl (Nat.le_of_ble_eq_true rfl) dX4_cover_26 (fun H locs hP hD hS => ?_)
    replace hw := hw um3 e_um3
    have hP : va_P (dC, dI) vwCl (w_md gm cA um3) H := by rw [e_um3]; exact hP
    have hD : va_D A (w_md gm cA um3) := by rw [e_um3]; exact hD
    refine lv_aload_n hx hb dX4_cover_29 rfl (lv_at hl 0 rfl) ?_
    refine va_get (D := (dC, dI)) (ci := 3) (v := .int (um3 0 0)) (C := RX4) (T := TX4) (N := 23) hx hb hts iX4 hown hK hP 0 rfl rfl 0 (by decide) (hts _ (xm m528)) (fun _ h9 => h9) rfl dX4_cover_30 ?_
    refine lv_if_ne (tgt := 48) hx hb dX4_cover_33 (by decide) (fun c6 => ?_) (fun c6 => ?_)
    · replace hw := And.left hw c6
      exact W.vret hx hb hr (fun t ht hW => ⟨⟨um3, rfl, hw, by rw [ht]; exact hP, va_K.moved hW.alike hK, hD⟩, hS.F ht⟩) hS.2.2 dX4_cover_48
    · replace hw := And.right hw c6
      refine lv_aload_n hx hb dX4_cover_36 rfl (lv_at hl 0 rfl) ?_
      refine va_get (D := (dC, dI)) (ci := 3) (v := .ref (gm 9)) (C := RX4) (T := TX4) (N := 23) hx hb hts iX4 hown hK hP 0 rfl rfl 15 (by decide) (hts _ (xm m543)) (fun _ h9 => h9) rfl dX4_cover_37 ?_
      refine lv_aload_n hx hb dX4_cover_40 rfl (lv_at hl 0 rfl) ?_
      refine lv_iload_n hx hb dX4_cover_41 rfl (lv_at hl 1 rfl) ?_
      refine lv_iload_n hx hb dX4_cover_42 rfl (lv_at hl 2 rfl) ?_
      have hPc : va_P (dC, dI) vwCl (w_md gm cA um3) _ := hP
      refine vp_callSi (va_Run.run (va_runV (As := [.int x1, .int x2]) (rest := [.ref (gm 9)]) ⟨hx, hb, hml, hown, hts⟩ (c_X4_pointAt l dC dI cA gm um3 x1 x2 _ hw) (gcV 2 hts m636 m633 m635 m10 m24 rfl rfl (by decide +kernel) ⟨Nat.le_of_ble_eq_true rfl, Nat.le_of_ble_eq_true rfl⟩) ⟨xbl1, va_recv hK hPc (ci := 3) (q0 := 0) rfl rfl, fun U hU hW => ⟨rfl, by rw [hU]; exact hPc, va_K.moved hW.alike hK⟩⟩ rfl rfl hl.1 rfl (lv_room (Nat.le_of_ble_eq_true rfl)) dX4_cover_43 ⟨Nat.le_of_ble_eq_true rfl, Nat.le_of_ble_eq_true rfl⟩)) (fun r4 hw => ?_)
      refine lv_iload_n hx hb dX4_cover_46 rfl (lv_at hl 3 rfl) ?_
      obtain ⟨um5, e_um5⟩ : ∃ z, z = st um3 9 r4.toNatClampNeg x3 := ⟨_, rfl⟩
      refine va_iast hx hb hK hP hD hS 9 0 rfl rfl (And.left hw) dX4_cover_47 (fun H locs hP hD hS => ?_)
      replace hw := And.right hw
      replace hw := hw um5 e_um5
      have hP : va_P (dC, dI) vwCl (w_md gm cA um5) H := by rw [e_um5]; exact hP
      have hD : va_D A (w_md gm cA um5) := by rw [e_um5]; exact hD
      exact W.vret hx hb hr (fun t ht hW => ⟨⟨um5, rfl, hw, by rw [ht]; exact hP, va_K.moved hW.alike hK, hD⟩, hS.F ht⟩) hS.2.2 dX4_cover_48
  have hl := lv_entry ([.ref (gm 0), .int p0, .int p1, .int p2]) (n := 4) (Nat.le_of_ble_eq_true rfl)
  rw [show entryFrame m args 4 = entryFrame m (([.ref (gm 0), .int p0, .int p1, .int p2] : List Value).toArray) 4 from by rw [hargs], lg_entry_eq]
  generalize (lg_sl ([.ref (gm 0), .int p0, .int p1, .int p2]) ++ List.replicate (4 - (lg_sl ([.ref (gm 0), .int p0, .int p1, .int p2])).length) Slot.unset).toArray = ls at hl ⊢
  have hl : lv_has ls 4 [(0, .ref (gm 0)), (1, .int p0), (2, .int p1), (3, .int p2)] := hl
  have hP : va_P (dC, dI) vwCl (w_md gm cA um) s.heap := hP
  refine lv_aload_n hx hb dX4_cover_0 rfl (lv_at hl 0 rfl) ?_
  refine lv_iload_n hx hb dX4_cover_1 rfl (lv_at hl 3 rfl) ?_
  refine vp_callSi (va_Run.run (va_runS (As := [.int p2]) (rest := [.ref (gm 0)]) ⟨hx, hb, hml, hown, hts⟩ (c_X4_isByte l p2 _ hw) (gcS 1 hts m628 m626 m627 m24 rfl rfl (by decide +kernel) ⟨Nat.le_of_ble_eq_true rfl, Nat.le_of_ble_eq_true rfl⟩) ⟨xbl0, fun U hU hW => ⟨rfl, trivial⟩⟩ rfl rfl hl.1 rfl (lv_room (Nat.le_of_ble_eq_true rfl)) dX4_cover_2 ⟨Nat.le_of_ble_eq_true rfl, Nat.le_of_ble_eq_true rfl⟩)) (fun r1 hw => ?_)
  refine lv_if_ne (tgt := 12) hx hb dX4_cover_5 (by decide) (fun c8 => ?_) (fun c8 => ?_)
  · replace hw := And.left hw c8
    refine lv_aload_n hx hb dX4_cover_12 rfl (lv_at hl 0 rfl) ?_
    refine lv_iload_n hx hb dX4_cover_13 rfl (lv_at hl 1 rfl) ?_
    refine lv_iload_n hx hb dX4_cover_14 rfl (lv_at hl 2 rfl) ?_
    have hPc : va_P (dC, dI) vwCl (w_md gm cA um) _ := hP
    refine vp_callSi (va_Run.run (va_runV (As := [.int p0, .int p1]) (rest := [.ref (gm 0)]) ⟨hx, hb, hml, hown, hts⟩ (c_X4_isPoint l dC dI cA gm um p0 p1 _ hw) (gcV 2 hts m721 m718 m720 m18 m24 rfl rfl (by decide +kernel) ⟨Nat.le_of_ble_eq_true rfl, Nat.le_of_ble_eq_true rfl⟩) ⟨xbl1, va_recv hK hPc (ci := 3) (q0 := 0) rfl rfl, fun U hU hW => ⟨rfl, by rw [hU]; exact hPc, va_K.moved hW.alike hK⟩⟩ rfl rfl hl.1 rfl (lv_room (Nat.le_of_ble_eq_true rfl)) dX4_cover_15 ⟨Nat.le_of_ble_eq_true rfl, Nat.le_of_ble_eq_true rfl⟩)) (fun r2 hw => ?_)
    refine lv_if_ne (tgt := 25) hx hb dX4_cover_18 (by decide) (fun c7 => ?_) (fun c7 => ?_)
    · replace hw := And.left hw c7
      refine lv_iconst (v := 0) hx hb dX4_cover_25 (by decide) ?_
      exact J26 _ _ _ _ _ hw _ _ _ hP hD hS (lv_sub hl [0, 1, 2, 3] rfl)
    · replace hw := And.right hw c7
      refine lv_iconst (v := 2) hx hb dX4_cover_21 (by decide) ?_
      refine lv_goto (tgt := 26) hx hb dX4_cover_22 (by decide) ?_
      exact J26 _ _ _ _ _ hw _ _ _ hP hD hS (lv_sub hl [0, 1, 2, 3] rfl)
  · replace hw := And.right hw c8
    refine lv_iconst (v := 1) hx hb dX4_cover_8 (by decide) ?_
    refine lv_goto (tgt := 26) hx hb dX4_cover_9 (by decide) ?_
    exact J26 _ _ _ _ _ hw _ _ _ hP hD hS (lv_sub hl [0, 1, 2, 3] rfl)
abbrev wX4_fill : List Cond := Cond.code yX4_fill cX4_fill 8 none :: gG
def wp_X4_fill_88 (K : (Nat → Nat → Int32) → Int32 → Prop) (um : Nat → Nat → Int32) (x1 : Int32) (x2 : Int32) (x3 : Int32) (x4 : Int32) (x5 : Int32) (x6 : Int32) (x7 : Int32) : Prop :=
  ∀ v3 : Int32, v3 = x7 + 1 → K um v3
def wp_X4_fill_39 (KX : (Nat → Nat → Int32) → Prop) (x1 : Int32) (x2 : Int32) (x3 : Int32) (x4 : Int32) (x5 : Int32) (x6 : Int32) : Nat → (Nat → Nat → Int32) → Int32 → Prop
  | 0, _, _ => False
  | N39 + 1, um, x7 =>
    (((um 0 2) ≤ x7 → KX um) ∧
  (¬ (um 0 2) ≤ x7 → ((x6 < x1 → wp_X4_fill_88 (wp_X4_fill_39 KX x1 x2 x3 x4 x5 x6 N39) um x1 x2 x3 x4 x5 x6 x7) ∧
  (¬ x6 < x1 → ((x3 < x6 → wp_X4_fill_88 (wp_X4_fill_39 KX x1 x2 x3 x4 x5 x6 N39) um x1 x2 x3 x4 x5 x6 x7) ∧
  (¬ x3 < x6 → ((x7 < x2 → wp_X4_fill_88 (wp_X4_fill_39 KX x1 x2 x3 x4 x5 x6 N39) um x1 x2 x3 x4 x5 x6 x7) ∧
  (¬ x7 < x2 → ((x4 < x7 → wp_X4_fill_88 (wp_X4_fill_39 KX x1 x2 x3 x4 x5 x6 N39) um x1 x2 x3 x4 x5 x6 x7) ∧
  (¬ x4 < x7 → wp_X4_pointAt um x6 x7 (fun r4 => (vp_in r4 144 ∧ ∀ um5 : Nat → Nat → Int32, um5 = st um 9 r4.toNatClampNeg x5 → wp_X4_fill_88 (wp_X4_fill_39 KX x1 x2 x3 x4 x5 x6 N39) um5 x1 x2 x3 x4 x5 x6 x7))))))))))))
def wp_X4_fill_20 (KX : (Nat → Nat → Int32) → Prop) (x1 : Int32) (x2 : Int32) (x3 : Int32) (x4 : Int32) (x5 : Int32) : Nat → (Nat → Nat → Int32) → Int32 → Prop
  | 0, _, _ => False
  | N20 + 1, um, x6 =>
    (((um 0 1) ≤ x6 → KX um) ∧
  (¬ (um 0 1) ≤ x6 → ((¬ (um 0 0) = 0 → KX um) ∧
  ((um 0 0) = 0 → (∃ N39, wp_X4_fill_39 (fun (um11 : Nat → Nat → Int32) => ∀ v12 : Int32, v12 = x6 + 1 → wp_X4_fill_20 KX x1 x2 x3 x4 x5 N20 um11 v12) x1 x2 x3 x4 x5 x6 N39 um 0)))))
def wp_X4_fill_14 (P : (Nat → Nat → Int32) → Prop) (um : Nat → Nat → Int32) (x1 : Int32) (x2 : Int32) (x3 : Int32) (x4 : Int32) (x5 : Int32) (s0 : Int32) : Prop :=
  ∀ um2 : Nat → Nat → Int32, um2 = st um 0 0 s0 → (∃ N20, wp_X4_fill_20 (fun (um15 : Nat → Nat → Int32) => P um15) x1 x2 x3 x4 x5 N20 um2 0)
def wp_X4_fill (um : Nat → Nat → Int32) (p0 : Int32) (p1 : Int32) (p2 : Int32) (p3 : Int32) (p4 : Int32) (P : (Nat → Nat → Int32) → Prop) : Prop :=
  wp_X4_isByte p4 (fun r1 => ((r1 = 0 → wp_X4_fill_14 P um p0 p1 p2 p3 p4 1) ∧
  (¬ r1 = 0 → wp_X4_fill_14 P um p0 p1 p2 p3 p4 0)))
abbrev rm_X4_fill : Room := { frames := 1, cells := 0, slots := 0, locals := 22 }
set_option maxHeartbeats 4000000 in
set_option maxRecDepth 100000 in
theorem c_X4_fill (l : Launch) (dC : Nat → ClassId) (dI : Nat → Nat → Nat) (cA : Nat → ClassId) (gm : Nat → Nat) (sz : Nat) (um : Nat → Nat → Int32) (p0 : Int32) (p1 : Int32) (p2 : Int32) (p3 : Int32) (p4 : Int32) (P : (Nat → Nat → Int32) → Prop) (hw : wp_X4_fill um p0 p1 p2 p3 p4 P) : Met l yX4_fill wX4_fill rm_X4_fill (xP2 dC dI cA (w_md gm cA um) sz [.ref (gm 0), .int p0, .int p1, .int p2, .int p3, .int p4]) (va_Qv (fun (u : (Nat → Nat → Int32)) => P u) (xB dC dI cA (fun u : (Nat → Nat → Int32) => w_md gm cA u) (va_A (w_md gm cA um) sz)) (va_A (w_md gm cA um) sz)) 0 0 (va_A (w_md gm cA um) sz) := by
  refine Met.ofW (cc := cX4_fill) (maxL := 8) (ret := none) (by decide) rfl ?_
  intro p e s m args below meth c s₁ B hml hv
  obtain ⟨hargs, hsz, hP, hK, hD0⟩ := hv
  have hx := B.exec
  have hb := B.bytes
  have hr := B.returns
  have hts := atoms_spec (ws := wX4_fill) B.pre
  have hown : s.vm.findClass RX4 = some m.cls := findClass_of_methodNamed B.named
  have hlocks := B.notSynchronized
  subst hsz
  have hD := hD0.self (sz := s.heap.size)
  generalize hAe : va_A (w_md gm cA um) s.heap.size = A at hD ⊢
  have hA : ∀ q : Nat, s.heap.size ≤ q → A q := fun q h => by rw [← hAe]; exact Or.inr h
  have hS : va_S A s.heap s.heap [] := va_S.rf
  clear hAe hD0
  have J88 : ∀ (K : (Nat → Nat → Int32) → Int32 → Prop) (um : Nat → Nat → Int32) (x1 : Int32) (x2 : Int32) (x3 : Int32) (x4 : Int32) (x5 : Int32) (x6 : Int32) (x7 : Int32), wp_X4_fill_88 K um x1 x2 x3 x4 x5 x6 x7 → (∀ (um : Nat → Nat → Int32) (x7 : Int32), K um x7 → ∀ (H : Heap) (locs : List Loc) (ls : Array Slot), va_P (dC, dI) vwCl (w_md gm cA um) H → va_D A (w_md gm cA um) → va_S A s.heap H locs → lv_has ls 8 [(0, .ref (gm 0)), (1, .int x1), (2, .int x2), (3, .int x3), (4, .int x4), (5, .int x5), (6, .int x6), (7, .int x7)] → W p l e (headSpec wX4_fill rm_X4_fill).room s m args below meth c H locs 0 0 (MQ below (va_Qv (fun (u : (Nat → Nat → Int32)) => P u) (xB dC dI cA (fun u : (Nat → Nat → Int32) => w_md gm cA u) A) A) args s 0 0 A) (F0 m 39 ls [])) → ∀ (H : Heap) (locs : List Loc) (ls : Array Slot), va_P (dC, dI) vwCl (w_md gm cA um) H → va_D A (w_md gm cA um) → va_S A s.heap H locs → lv_has ls 8 [(0, .ref (gm 0)), (1, .int x1), (2, .int x2), (3, .int x3), (4, .int x4), (5, .int x5), (6, .int x6), (7, .int x7)] → W p l e (headSpec wX4_fill rm_X4_fill).room s m args below meth c H locs 0 0 (MQ below (va_Qv (fun (u : (Nat → Nat → Int32)) => P u) (xB dC dI cA (fun u : (Nat → Nat → Int32) => w_md gm cA u) A) A) args s 0 0 A) (F0 m 88 ls []) := by
    intro K um x1 x2 x3 x4 x5 x6 x7 hw hk H locs ls hP hD hS hl
    obtain ⟨v3, e_v3⟩ : ∃ y : Int32, y = x7 + 1 := ⟨_, rfl⟩
    replace hw := hw v3 e_v3
    refine lv_iinc (v := v3) (lv' := [(7, .int v3), (0, .ref (gm 0)), (1, .int x1), (2, .int x2), (3, .int x3), (4, .int x4), (5, .int x5), (6, .int x6)]) hx hb dX4_fill_88 hl (k := 7) rfl (by rw [e_v3]; rfl) (by decide) rfl (fun ls hl => ?_)
    refine lv_goto (tgt := 39) hx hb dX4_fill_91 (by decide) ?_
    exact hk _ _ hw _ _ _ hP hD hS (lv_sub hl [1, 2, 3, 4, 5, 6, 7, 0] rfl)
  have L39 : ∀ (KX : (Nat → Nat → Int32) → Prop) (x1 : Int32) (x2 : Int32) (x3 : Int32) (x4 : Int32) (x5 : Int32) (x6 : Int32), (∀ (um : Nat → Nat → Int32), KX um → ∀ (H : Heap) (locs : List Loc) (ls : Array Slot), va_P (dC, dI) vwCl (w_md gm cA um) H → va_D A (w_md gm cA um) → va_S A s.heap H locs → lv_has ls 8 [(0, .ref (gm 0)), (1, .int x1), (2, .int x2), (3, .int x3), (4, .int x4), (5, .int x5), (6, .int x6)] → W p l e (headSpec wX4_fill rm_X4_fill).room s m args below meth c H locs 0 0 (MQ below (va_Qv (fun (u : (Nat → Nat → Int32)) => P u) (xB dC dI cA (fun u : (Nat → Nat → Int32) => w_md gm cA u) A) A) args s 0 0 A) (F0 m 94 ls [])) → ∀ (N : Nat) (um : Nat → Nat → Int32) (x7 : Int32), wp_X4_fill_39 KX x1 x2 x3 x4 x5 x6 N um x7 → ∀ (H : Heap) (locs : List Loc) (ls : Array Slot), va_P (dC, dI) vwCl (w_md gm cA um) H → va_D A (w_md gm cA um) → va_S A s.heap H locs → lv_has ls 8 [(0, .ref (gm 0)), (1, .int x1), (2, .int x2), (3, .int x3), (4, .int x4), (5, .int x5), (6, .int x6), (7, .int x7)] → W p l e (headSpec wX4_fill rm_X4_fill).room s m args below meth c H locs 0 0 (MQ below (va_Qv (fun (u : (Nat → Nat → Int32)) => P u) (xB dC dI cA (fun u : (Nat → Nat → Int32) => w_md gm cA u) A) A) args s 0 0 A) (F0 m 39 ls []) := by
    intro KX x1 x2 x3 x4 x5 x6 hx2 N39
    induction N39 with
    | zero =>
      intro um x7 hw
      exact False.elim hw
    | succ N39 hk =>
      intro um x7 hw H locs ls hP hD hS hl
      rw [wp_X4_fill_39] at hw
      refine lv_iload hx hb dX4_fill_39 (lv_at hl 7 rfl) ?_
      refine lv_aload_n hx hb dX4_fill_41 rfl (lv_at hl 0 rfl) ?_
      refine va_get (D := (dC, dI)) (ci := 3) (v := .int (um 0 2)) (C := RX4) (T := TX4) (N := 23) hx hb hts iX4 hown hK hP 0 rfl rfl 2 (by decide) (hts _ (xm m530)) (fun _ h9 => h9) rfl dX4_fill_42 ?_
      refine lv_icmp_ge (tgt := 94) hx hb dX4_fill_45 (by decide) (fun c10 => ?_) (fun c10 => ?_)
      · replace hw := And.left hw c10
        exact hx2 _ hw _ _ _ hP hD hS (lv_sub hl [0, 1, 2, 3, 4, 5, 6] rfl)
      · replace hw := And.right hw c10
        refine lv_iload hx hb dX4_fill_48 (lv_at hl 6 rfl) ?_
        refine lv_iload_n hx hb dX4_fill_50 rfl (lv_at hl 1 rfl) ?_
        refine lv_icmp_lt (tgt := 88) hx hb dX4_fill_51 (by decide) (fun c9 => ?_) (fun c9 => ?_)
        · replace hw := And.left hw c9
          exact J88 _ _ _ _ _ _ _ _ _ hw hk _ _ _ hP hD hS (lv_sub hl [0, 1, 2, 3, 4, 5, 6, 7] rfl)
        · replace hw := And.right hw c9
          refine lv_iload hx hb dX4_fill_54 (lv_at hl 6 rfl) ?_
          refine lv_iload_n hx hb dX4_fill_56 rfl (lv_at hl 3 rfl) ?_
          refine lv_icmp_gt (tgt := 88) hx hb dX4_fill_57 (by decide) (fun c8 => ?_) (fun c8 => ?_)
          · replace hw := And.left hw c8
            exact J88 _ _ _ _ _ _ _ _ _ hw hk _ _ _ hP hD hS (lv_sub hl [0, 1, 2, 3, 4, 5, 6, 7] rfl)
          · replace hw := And.right hw c8
            refine lv_iload hx hb dX4_fill_60 (lv_at hl 7 rfl) ?_
            refine lv_iload_n hx hb dX4_fill_62 rfl (lv_at hl 2 rfl) ?_
            refine lv_icmp_lt (tgt := 88) hx hb dX4_fill_63 (by decide) (fun c7 => ?_) (fun c7 => ?_)
            · replace hw := And.left hw c7
              exact J88 _ _ _ _ _ _ _ _ _ hw hk _ _ _ hP hD hS (lv_sub hl [0, 1, 2, 3, 4, 5, 6, 7] rfl)
            · replace hw := And.right hw c7
              refine lv_iload hx hb dX4_fill_66 (lv_at hl 7 rfl) ?_
              refine lv_iload hx hb dX4_fill_68 (lv_at hl 4 rfl) ?_
              refine lv_icmp_gt (tgt := 88) hx hb dX4_fill_70 (by decide) (fun c6 => ?_) (fun c6 => ?_)
              · replace hw := And.left hw c6
                exact J88 _ _ _ _ _ _ _ _ _ hw hk _ _ _ hP hD hS (lv_sub hl [0, 1, 2, 3, 4, 5, 6, 7] rfl)
              · replace hw := And.right hw c6
                refine lv_aload_n hx hb dX4_fill_73 rfl (lv_at hl 0 rfl) ?_
                refine va_get (D := (dC, dI)) (ci := 3) (v := .ref (gm 9)) (C := RX4) (T := TX4) (N := 23) hx hb hts iX4 hown hK hP 0 rfl rfl 15 (by decide) (hts _ (xm m543)) (fun _ h9 => h9) rfl dX4_fill_74 ?_
                refine lv_aload_n hx hb dX4_fill_77 rfl (lv_at hl 0 rfl) ?_
                refine lv_iload hx hb dX4_fill_78 (lv_at hl 6 rfl) ?_
                refine lv_iload hx hb dX4_fill_80 (lv_at hl 7 rfl) ?_
                have hPc : va_P (dC, dI) vwCl (w_md gm cA um) _ := hP
                refine vp_callSi (va_Run.run (va_runV (As := [.int x6, .int x7]) (rest := [.ref (gm 9)]) ⟨hx, hb, hml, hown, hts⟩ (c_X4_pointAt l dC dI cA gm um x6 x7 _ hw) (gcV 2 hts m636 m633 m635 m10 m24 rfl rfl (by decide +kernel) ⟨Nat.le_of_ble_eq_true rfl, Nat.le_of_ble_eq_true rfl⟩) ⟨xbl1, va_recv hK hPc (ci := 3) (q0 := 0) rfl rfl, fun U hU hW => ⟨rfl, by rw [hU]; exact hPc, va_K.moved hW.alike hK⟩⟩ rfl rfl hl.1 rfl (lv_room (Nat.le_of_ble_eq_true rfl)) dX4_fill_82 ⟨Nat.le_of_ble_eq_true rfl, Nat.le_of_ble_eq_true rfl⟩)) (fun r4 hw => ?_)
                refine lv_iload hx hb dX4_fill_85 (lv_at hl 5 rfl) ?_
                obtain ⟨um5, e_um5⟩ : ∃ z, z = st um 9 r4.toNatClampNeg x5 := ⟨_, rfl⟩
                refine va_iast hx hb hK hP hD hS 9 0 rfl rfl (And.left hw) dX4_fill_87 (fun H locs hP hD hS => ?_)
                replace hw := And.right hw
                replace hw := hw um5 e_um5
                have hP : va_P (dC, dI) vwCl (w_md gm cA um5) H := by rw [e_um5]; exact hP
                have hD : va_D A (w_md gm cA um5) := by rw [e_um5]; exact hD
                exact J88 _ _ _ _ _ _ _ _ _ hw hk _ _ _ hP hD hS (lv_sub hl [0, 1, 2, 3, 4, 5, 6, 7] rfl)
  have L20 : ∀ (KX : (Nat → Nat → Int32) → Prop) (x1 : Int32) (x2 : Int32) (x3 : Int32) (x4 : Int32) (x5 : Int32), (∀ (um : Nat → Nat → Int32), KX um → ∀ (H : Heap) (locs : List Loc) (ls : Array Slot), va_P (dC, dI) vwCl (w_md gm cA um) H → va_D A (w_md gm cA um) → va_S A s.heap H locs → lv_has ls 8 [] → W p l e (headSpec wX4_fill rm_X4_fill).room s m args below meth c H locs 0 0 (MQ below (va_Qv (fun (u : (Nat → Nat → Int32)) => P u) (xB dC dI cA (fun u : (Nat → Nat → Int32) => w_md gm cA u) A) A) args s 0 0 A) (F0 m 100 ls [])) → ∀ (N : Nat) (um : Nat → Nat → Int32) (x6 : Int32), wp_X4_fill_20 KX x1 x2 x3 x4 x5 N um x6 → ∀ (H : Heap) (locs : List Loc) (ls : Array Slot), va_P (dC, dI) vwCl (w_md gm cA um) H → va_D A (w_md gm cA um) → va_S A s.heap H locs → lv_has ls 8 [(0, .ref (gm 0)), (1, .int x1), (2, .int x2), (3, .int x3), (4, .int x4), (5, .int x5), (6, .int x6)] → W p l e (headSpec wX4_fill rm_X4_fill).room s m args below meth c H locs 0 0 (MQ below (va_Qv (fun (u : (Nat → Nat → Int32)) => P u) (xB dC dI cA (fun u : (Nat → Nat → Int32) => w_md gm cA u) A) A) args s 0 0 A) (F0 m 20 ls []) := by
    intro KX x1 x2 x3 x4 x5 hx2 N20
    induction N20 with
    | zero =>
      intro um x6 hw
      exact False.elim hw
    | succ N20 hk =>
      intro um x6 hw H locs ls hP hD hS hl
      rw [wp_X4_fill_20] at hw
      refine lv_iload hx hb dX4_fill_20 (lv_at hl 6 rfl) ?_
      refine lv_aload_n hx hb dX4_fill_22 rfl (lv_at hl 0 rfl) ?_
      refine va_get (D := (dC, dI)) (ci := 3) (v := .int (um 0 1)) (C := RX4) (T := TX4) (N := 23) hx hb hts iX4 hown hK hP 0 rfl rfl 1 (by decide) (hts _ (xm m529)) (fun _ h9 => h9) rfl dX4_fill_23 ?_
      refine lv_icmp_ge (tgt := 100) hx hb dX4_fill_26 (by decide) (fun c14 => ?_) (fun c14 => ?_)
      · replace hw := And.left hw c14
        exact hx2 _ hw _ _ _ hP hD hS (lv_sub hl [] rfl)
      · replace hw := And.right hw c14
        refine lv_aload_n hx hb dX4_fill_29 rfl (lv_at hl 0 rfl) ?_
        refine va_get (D := (dC, dI)) (ci := 3) (v := .int (um 0 0)) (C := RX4) (T := TX4) (N := 23) hx hb hts iX4 hown hK hP 0 rfl rfl 0 (by decide) (hts _ (xm m528)) (fun _ h9 => h9) rfl dX4_fill_30 ?_
        refine lv_if_ne (tgt := 100) hx hb dX4_fill_33 (by decide) (fun c13 => ?_) (fun c13 => ?_)
        · replace hw := And.left hw c13
          exact hx2 _ hw _ _ _ hP hD hS (lv_sub hl [] rfl)
        · replace hw := And.right hw c13
          refine lv_iconst (v := 0) hx hb dX4_fill_36 (by decide) ?_
          refine lv_istore (lv' := [(7, .int 0), (0, .ref (gm 0)), (1, .int x1), (2, .int x2), (3, .int x3), (4, .int x4), (5, .int x5), (6, .int x6)]) hx hb dX4_fill_37 hl (by decide) rfl (fun ls hl => ?_)
          obtain ⟨N39, hw⟩ := hw
          refine L39 _ _ _ _ _ _ _ (fun um11 hw H locs ls hP hD hS hl => ?_) N39 _ _ hw _ _ _ hP hD hS (lv_sub hl [1, 2, 3, 4, 5, 6, 7, 0] rfl)
          obtain ⟨v12, e_v12⟩ : ∃ y : Int32, y = x6 + 1 := ⟨_, rfl⟩
          replace hw := hw v12 e_v12
          refine lv_iinc (v := v12) (lv' := [(6, .int v12), (0, .ref (gm 0)), (1, .int x1), (2, .int x2), (3, .int x3), (4, .int x4), (5, .int x5)]) hx hb dX4_fill_94 hl (k := 6) rfl (by rw [e_v12]; rfl) (by decide) rfl (fun ls hl => ?_)
          refine lv_goto (tgt := 20) hx hb dX4_fill_97 (by decide) ?_
          exact hk _ _ hw _ _ _ hP hD hS (lv_sub hl [1, 2, 3, 4, 5, 6, 0] rfl)
  have J14 : ∀ (um : Nat → Nat → Int32) (x1 : Int32) (x2 : Int32) (x3 : Int32) (x4 : Int32) (x5 : Int32) (s0 : Int32), wp_X4_fill_14 P um x1 x2 x3 x4 x5 s0 → ∀ (H : Heap) (locs : List Loc) (ls : Array Slot), va_P (dC, dI) vwCl (w_md gm cA um) H → va_D A (w_md gm cA um) → va_S A s.heap H locs → lv_has ls 8 [(0, .ref (gm 0)), (1, .int x1), (2, .int x2), (3, .int x3), (4, .int x4), (5, .int x5)] → W p l e (headSpec wX4_fill rm_X4_fill).room s m args below meth c H locs 0 0 (MQ below (va_Qv (fun (u : (Nat → Nat → Int32)) => P u) (xB dC dI cA (fun u : (Nat → Nat → Int32) => w_md gm cA u) A) A) args s 0 0 A) (F0 m 14 ls [.int s0, .ref (gm 0)]) := by
    intro  um x1 x2 x3 x4 x5 s0 hw H locs ls hP hD hS hl
    obtain ⟨um2, e_um2⟩ : ∃ z, z = st um 0 0 s0 := ⟨_, rfl⟩
    refine va_put (D := (dC, dI)) (ci := 3) (v := .int s0) (ty := .int) (C := RX4) (T := TX4) (N := 23) hx hb hts iX4 tyX4 tyX4_ok nmX4 hown hK hP hD hS 0 rfl rfl 0 (by decide) (hts _ (xm m528)) (fun _ h9 => h9) rfl (by decide +kernel) rfl rfl (Nat.le_of_ble_eq_true rfl) dX4_fill_14 (fun H locs hP hD hS => ?_)
    replace hw := hw um2 e_um2
    have hP : va_P (dC, dI) vwCl (w_md gm cA um2) H := by rw [e_um2]; exact hP
    have hD : va_D A (w_md gm cA um2) := by rw [e_um2]; exact hD
    refine lv_iconst (v := 0) hx hb dX4_fill_17 (by decide) ?_
    refine lv_istore (lv' := [(6, .int 0), (0, .ref (gm 0)), (1, .int x1), (2, .int x2), (3, .int x3), (4, .int x4), (5, .int x5)]) hx hb dX4_fill_18 hl (by decide) rfl (fun ls hl => ?_)
    obtain ⟨N20, hw⟩ := hw
    refine L20 _ _ _ _ _ _ (fun um15 hw H locs ls hP hD hS hl => ?_) N20 _ _ hw _ _ _ hP hD hS (lv_sub hl [1, 2, 3, 4, 5, 6, 0] rfl)
    exact W.vret hx hb hr (fun t ht hW => ⟨⟨um15, rfl, hw, by rw [ht]; exact hP, va_K.moved hW.alike hK, hD⟩, hS.F ht⟩) hS.2.2 dX4_fill_100
  have hl := lv_entry ([.ref (gm 0), .int p0, .int p1, .int p2, .int p3, .int p4]) (n := 8) (Nat.le_of_ble_eq_true rfl)
  rw [show entryFrame m args 8 = entryFrame m (([.ref (gm 0), .int p0, .int p1, .int p2, .int p3, .int p4] : List Value).toArray) 8 from by rw [hargs], lg_entry_eq]
  generalize (lg_sl ([.ref (gm 0), .int p0, .int p1, .int p2, .int p3, .int p4]) ++ List.replicate (8 - (lg_sl ([.ref (gm 0), .int p0, .int p1, .int p2, .int p3, .int p4])).length) Slot.unset).toArray = ls at hl ⊢
  have hl : lv_has ls 8 [(0, .ref (gm 0)), (1, .int p0), (2, .int p1), (3, .int p2), (4, .int p3), (5, .int p4)] := hl
  have hP : va_P (dC, dI) vwCl (w_md gm cA um) s.heap := hP
  refine lv_aload_n hx hb dX4_fill_0 rfl (lv_at hl 0 rfl) ?_
  refine lv_iload hx hb dX4_fill_1 (lv_at hl 5 rfl) ?_
  refine vp_callSi (va_Run.run (va_runS (As := [.int p4]) (rest := [.ref (gm 0)]) ⟨hx, hb, hml, hown, hts⟩ (c_X4_isByte l p4 _ hw) (gcS 1 hts m628 m626 m627 m24 rfl rfl (by decide +kernel) ⟨Nat.le_of_ble_eq_true rfl, Nat.le_of_ble_eq_true rfl⟩) ⟨xbl0, fun U hU hW => ⟨rfl, trivial⟩⟩ rfl rfl hl.1 rfl (lv_room (Nat.le_of_ble_eq_true rfl)) dX4_fill_3 ⟨Nat.le_of_ble_eq_true rfl, Nat.le_of_ble_eq_true rfl⟩)) (fun r1 hw => ?_)
  refine lv_if_eq (tgt := 13) hx hb dX4_fill_6 (by decide) (fun c16 => ?_) (fun c16 => ?_)
  · replace hw := And.left hw c16
    refine lv_iconst (v := 1) hx hb dX4_fill_13 (by decide) ?_
    exact J14 _ _ _ _ _ _ _ hw _ _ _ hP hD hS (lv_sub hl [0, 1, 2, 3, 4, 5] rfl)
  · replace hw := And.right hw c16
    refine lv_iconst (v := 0) hx hb dX4_fill_9 (by decide) ?_
    refine lv_goto (tgt := 14) hx hb dX4_fill_10 (by decide) ?_
    exact J14 _ _ _ _ _ _ _ hw _ _ _ hP hD hS (lv_sub hl [0, 1, 2, 3, 4, 5] rfl)
abbrev wX4_mark : List Cond := Cond.code yX4_mark cX4_mark 11 (some .int) :: gG
def wp_X4_mark_143 (KX : (Nat → Nat → Int32) → Prop) (x1 : Int32) (x2 : Int32) (x3 : Int32) (x4 : Int32) (x5 : Int32) (x6 : Int32) (x7 : Int32) (x8 : Int32) (x9 : Int32) : Nat → (Nat → Nat → Int32) → Int32 → Prop
  | 0, _, _ => False
  | N143 + 1, um, x10 =>
    ((3 ≤ x10 → KX um) ∧
  (¬ 3 ≤ x10 → (vp_in x10 3 ∧ (vp_in x10 3 ∧ ∀ um8 : Nat → Nat → Int32, um8 = st um 12 x10.toNatClampNeg (um 10 x10.toNatClampNeg) → ∀ v9 : Int32, v9 = x10 + 1 → wp_X4_mark_143 KX x1 x2 x3 x4 x5 x6 x7 x8 x9 N143 um8 v9))))
def wp_X4_mark_137 (K : (Nat → Nat → Int32) → Int32 → Int32 → Prop) (um : Nat → Nat → Int32) (x1 : Int32) (x2 : Int32) (x3 : Int32) (x5 : Int32) (x6 : Int32) (x7 : Int32) (x8 : Int32) (x9 : Int32) (s0 : Int32) (s1 : Int32) : Prop :=
  ∀ v7 : Int32, v7 = (s1 + s0) → (∃ N143, wp_X4_mark_143 (fun (um11 : Nat → Nat → Int32) => wp_X4_here um11 (fun r12 => wp_X4_put um11 r12 x7 x1 x8 x9 (fun (um14 : Nat → Nat → Int32) => ∀ v15 : Int32, v15 = x6 + 1 → K um14 v7 v15))) x1 x2 x3 v7 x5 x6 x7 x8 x9 N143 um 0)
def wp_X4_mark_79 (KX : (Nat → Nat → Int32) → Int32 → Prop) (x1 : Int32) (x2 : Int32) (x3 : Int32) (x5 : Int32) : Nat → (Nat → Nat → Int32) → Int32 → Int32 → Prop
  | 0, _, _, _ => False
  | N79 + 1, um, x4, x6 =>
    (((um 0 1) ≤ x6 → KX um x4) ∧
  (¬ (um 0 1) ≤ x6 → wp_X4_pointAt um x6 x5 (fun r3 => (vp_in r3 144 ∧ wp_X4_mul (um 9 r3.toNatClampNeg) x2 (fun r4 => wp_X4_mul r4 x3 (fun r5 => wp_X4_leaves um r5 r3 (fun r6 => ((r6 ≤ 0 → wp_X4_mark_137 (wp_X4_mark_79 KX x1 x2 x3 x5 N79) um x1 x2 x3 x5 x6 r3 r4 r6 0 x4) ∧
  (¬ r6 ≤ 0 → wp_X4_mark_137 (wp_X4_mark_79 KX x1 x2 x3 x5 N79) um x1 x2 x3 x5 x6 r3 r4 r6 1 x4)))))))))
def wp_X4_mark_60 (KX : (Nat → Nat → Int32) → Int32 → Prop) (x1 : Int32) (x2 : Int32) (x3 : Int32) : Nat → (Nat → Nat → Int32) → Int32 → Int32 → Prop
  | 0, _, _, _ => False
  | N60 + 1, um, x4, x5 =>
    (((um 0 2) ≤ x5 → KX um x4) ∧
  (¬ (um 0 2) ≤ x5 → ((¬ (um 0 0) = 0 → KX um x4) ∧
  ((um 0 0) = 0 → (∃ N79, wp_X4_mark_79 (fun (um18 : Nat → Nat → Int32) (y19 : Int32) => ∀ v20 : Int32, v20 = x5 + 1 → wp_X4_mark_60 KX x1 x2 x3 N60 um18 y19 v20) x1 x2 x3 x5 N79 um x4 0)))))
def wp_X4_mark_53 (P : Int32 → (Nat → Nat → Int32) → Prop) (um : Nat → Nat → Int32) (x1 : Int32) (x2 : Int32) (x3 : Int32) (x4 : Int32) (s0 : Int32) (s1 : Int32) : Prop :=
  ∀ um2 : Nat → Nat → Int32, um2 = st um 0 7 (s1 + s0) → (∃ N60, wp_X4_mark_60 (fun (um23 : Nat → Nat → Int32) (y24 : Int32) => P y24 um23) x1 x2 x3 N60 um2 x4 0)
def wp_X4_mark_30 (P : Int32 → (Nat → Nat → Int32) → Prop) (um : Nat → Nat → Int32) (x1 : Int32) (x2 : Int32) (x3 : Int32) (s0 : Int32) : Prop :=
  ∀ um1 : Nat → Nat → Int32, um1 = st um 0 0 s0 → ((¬ (um1 0 0) = 0 → wp_X4_mark_53 P um1 x1 x2 x3 0 0 (um1 0 7)) ∧
  ((um1 0 0) = 0 → wp_X4_mark_53 P um1 x1 x2 x3 0 1 (um1 0 7)))
def wp_X4_mark_25 (P : Int32 → (Nat → Nat → Int32) → Prop) (um : Nat → Nat → Int32) (x1 : Int32) (x2 : Int32) (x3 : Int32) : Prop :=
  wp_X4_mark_30 P um x1 x2 x3 1
def wp_X4_mark (um : Nat → Nat → Int32) (p0 : Int32) (p1 : Int32) (p2 : Int32) (P : Int32 → (Nat → Nat → Int32) → Prop) : Prop :=
  ((p0 < 0 → wp_X4_mark_25 P um p0 p1 p2) ∧
  (¬ p0 < 0 → ((15 < p0 → wp_X4_mark_25 P um p0 p1 p2) ∧
  (¬ 15 < p0 → wp_X4_isByte p1 (fun r26 => ((r26 = 0 → wp_X4_mark_25 P um p0 p1 p2) ∧
  (¬ r26 = 0 → wp_X4_isByte p2 (fun r27 => ((¬ r27 = 0 → wp_X4_mark_30 P um p0 p1 p2 0) ∧
  (r27 = 0 → wp_X4_mark_25 P um p0 p1 p2))))))))))
abbrev rm_X4_mark : Room := { frames := 5, cells := 0, slots := 0, locals := 125 }
set_option maxHeartbeats 4000000 in
set_option maxRecDepth 100000 in
theorem c_X4_mark (l : Launch) (dC : Nat → ClassId) (dI : Nat → Nat → Nat) (cA : Nat → ClassId) (gm : Nat → Nat) (sz : Nat) (um : Nat → Nat → Int32) (p0 : Int32) (p1 : Int32) (p2 : Int32) (P : Int32 → (Nat → Nat → Int32) → Prop) (hw : wp_X4_mark um p0 p1 p2 P) : Met l yX4_mark wX4_mark rm_X4_mark (xP2 dC dI cA (w_md gm cA um) sz [.ref (gm 0), .int p0, .int p1, .int p2]) (va_Qi (fun r (u : (Nat → Nat → Int32)) => P r u) (xB dC dI cA (fun u : (Nat → Nat → Int32) => w_md gm cA u) (va_A (w_md gm cA um) sz)) (va_A (w_md gm cA um) sz)) 0 0 (va_A (w_md gm cA um) sz) := by
  refine Met.ofW (cc := cX4_mark) (maxL := 11) (ret := (some .int)) (by decide) rfl ?_
  intro p e s m args below meth c s₁ B hml hv
  obtain ⟨hargs, hsz, hP, hK, hD0⟩ := hv
  have hx := B.exec
  have hb := B.bytes
  have hr := B.returns
  have hts := atoms_spec (ws := wX4_mark) B.pre
  have hown : s.vm.findClass RX4 = some m.cls := findClass_of_methodNamed B.named
  have hlocks := B.notSynchronized
  subst hsz
  have hD := hD0.self (sz := s.heap.size)
  generalize hAe : va_A (w_md gm cA um) s.heap.size = A at hD ⊢
  have hA : ∀ q : Nat, s.heap.size ≤ q → A q := fun q h => by rw [← hAe]; exact Or.inr h
  have hS : va_S A s.heap s.heap [] := va_S.rf
  clear hAe hD0
  have L143 : ∀ (KX : (Nat → Nat → Int32) → Prop) (x1 : Int32) (x2 : Int32) (x3 : Int32) (x4 : Int32) (x5 : Int32) (x6 : Int32) (x7 : Int32) (x8 : Int32) (x9 : Int32), (∀ (um : Nat → Nat → Int32), KX um → ∀ (H : Heap) (locs : List Loc) (ls : Array Slot), va_P (dC, dI) vwCl (w_md gm cA um) H → va_D A (w_md gm cA um) → va_S A s.heap H locs → lv_has ls 11 [(0, .ref (gm 0)), (1, .int x1), (2, .int x2), (3, .int x3), (4, .int x4), (5, .int x5), (6, .int x6), (7, .int x7), (8, .int x8), (9, .int x9)] → W p l e (headSpec wX4_mark rm_X4_mark).room s m args below meth c H locs 0 0 (MQ below (va_Qi (fun r (u : (Nat → Nat → Int32)) => P r u) (xB dC dI cA (fun u : (Nat → Nat → Int32) => w_md gm cA u) A) A) args s 0 0 A) (F0 m 169 ls [])) → ∀ (N : Nat) (um : Nat → Nat → Int32) (x10 : Int32), wp_X4_mark_143 KX x1 x2 x3 x4 x5 x6 x7 x8 x9 N um x10 → ∀ (H : Heap) (locs : List Loc) (ls : Array Slot), va_P (dC, dI) vwCl (w_md gm cA um) H → va_D A (w_md gm cA um) → va_S A s.heap H locs → lv_has ls 11 [(0, .ref (gm 0)), (1, .int x1), (2, .int x2), (3, .int x3), (4, .int x4), (5, .int x5), (6, .int x6), (7, .int x7), (8, .int x8), (9, .int x9), (10, .int x10)] → W p l e (headSpec wX4_mark rm_X4_mark).room s m args below meth c H locs 0 0 (MQ below (va_Qi (fun r (u : (Nat → Nat → Int32)) => P r u) (xB dC dI cA (fun u : (Nat → Nat → Int32) => w_md gm cA u) A) A) args s 0 0 A) (F0 m 143 ls []) := by
    intro KX x1 x2 x3 x4 x5 x6 x7 x8 x9 hx2 N143
    induction N143 with
    | zero =>
      intro um x10 hw
      exact False.elim hw
    | succ N143 hk =>
      intro um x10 hw H locs ls hP hD hS hl
      rw [wp_X4_mark_143] at hw
      refine lv_iload hx hb dX4_mark_143 (lv_at hl 10 rfl) ?_
      refine lv_iconst (v := 3) hx hb dX4_mark_145 (by decide) ?_
      refine lv_icmp_ge (tgt := 169) hx hb dX4_mark_146 (by decide) (fun c10 => ?_) (fun c10 => ?_)
      · replace hw := And.left hw c10
        exact hx2 _ hw _ _ _ hP hD hS (lv_sub hl [0, 1, 2, 3, 4, 5, 6, 7, 8, 9] rfl)
      · replace hw := And.right hw c10
        refine lv_aload_n hx hb dX4_mark_149 rfl (lv_at hl 0 rfl) ?_
        refine va_get (D := (dC, dI)) (ci := 3) (v := .ref (gm 12)) (C := RX4) (T := TX4) (N := 23) hx hb hts iX4 hown hK hP 0 rfl rfl 19 (by decide) (hts _ (xm m547)) (fun _ h9 => h9) rfl dX4_mark_150 ?_
        refine lv_iload hx hb dX4_mark_153 (lv_at hl 10 rfl) ?_
        refine lv_aload_n hx hb dX4_mark_155 rfl (lv_at hl 0 rfl) ?_
        refine va_get (D := (dC, dI)) (ci := 3) (v := .ref (gm 10)) (C := RX4) (T := TX4) (N := 23) hx hb hts iX4 hown hK hP 0 rfl rfl 16 (by decide) (hts _ (xm m544)) (fun _ h9 => h9) rfl dX4_mark_156 ?_
        refine lv_iload hx hb dX4_mark_159 (lv_at hl 10 rfl) ?_
        refine va_iald hx hb hK hP 10 0 rfl rfl (And.left hw) dX4_mark_161 ?_
        replace hw := And.right hw
        obtain ⟨um8, e_um8⟩ : ∃ z, z = st um 12 x10.toNatClampNeg (um 10 x10.toNatClampNeg) := ⟨_, rfl⟩
        refine va_iast hx hb hK hP hD hS 12 0 rfl rfl (And.left hw) dX4_mark_162 (fun H locs hP hD hS => ?_)
        replace hw := And.right hw
        replace hw := hw um8 e_um8
        have hP : va_P (dC, dI) vwCl (w_md gm cA um8) H := by rw [e_um8]; exact hP
        have hD : va_D A (w_md gm cA um8) := by rw [e_um8]; exact hD
        obtain ⟨v9, e_v9⟩ : ∃ y : Int32, y = x10 + 1 := ⟨_, rfl⟩
        replace hw := hw v9 e_v9
        refine lv_iinc (v := v9) (lv' := [(10, .int v9), (0, .ref (gm 0)), (1, .int x1), (2, .int x2), (3, .int x3), (4, .int x4), (5, .int x5), (6, .int x6), (7, .int x7), (8, .int x8), (9, .int x9)]) hx hb dX4_mark_163 hl (k := 10) rfl (by rw [e_v9]; rfl) (by decide) rfl (fun ls hl => ?_)
        refine lv_goto (tgt := 143) hx hb dX4_mark_166 (by decide) ?_
        exact hk _ _ hw _ _ _ hP hD hS (lv_sub hl [1, 2, 3, 4, 5, 6, 7, 8, 9, 10, 0] rfl)
  have J137 : ∀ (K : (Nat → Nat → Int32) → Int32 → Int32 → Prop) (um : Nat → Nat → Int32) (x1 : Int32) (x2 : Int32) (x3 : Int32) (x5 : Int32) (x6 : Int32) (x7 : Int32) (x8 : Int32) (x9 : Int32) (s0 : Int32) (s1 : Int32), wp_X4_mark_137 K um x1 x2 x3 x5 x6 x7 x8 x9 s0 s1 → (∀ (um : Nat → Nat → Int32) (x4 : Int32) (x6 : Int32), K um x4 x6 → ∀ (H : Heap) (locs : List Loc) (ls : Array Slot), va_P (dC, dI) vwCl (w_md gm cA um) H → va_D A (w_md gm cA um) → va_S A s.heap H locs → lv_has ls 11 [(0, .ref (gm 0)), (1, .int x1), (2, .int x2), (3, .int x3), (4, .int x4), (5, .int x5), (6, .int x6)] → W p l e (headSpec wX4_mark rm_X4_mark).room s m args below meth c H locs 0 0 (MQ below (va_Qi (fun r (u : (Nat → Nat → Int32)) => P r u) (xB dC dI cA (fun u : (Nat → Nat → Int32) => w_md gm cA u) A) A) args s 0 0 A) (F0 m 79 ls [])) → ∀ (H : Heap) (locs : List Loc) (ls : Array Slot), va_P (dC, dI) vwCl (w_md gm cA um) H → va_D A (w_md gm cA um) → va_S A s.heap H locs → lv_has ls 11 [(0, .ref (gm 0)), (1, .int x1), (2, .int x2), (3, .int x3), (5, .int x5), (6, .int x6), (7, .int x7), (8, .int x8), (9, .int x9)] → W p l e (headSpec wX4_mark rm_X4_mark).room s m args below meth c H locs 0 0 (MQ below (va_Qi (fun r (u : (Nat → Nat → Int32)) => P r u) (xB dC dI cA (fun u : (Nat → Nat → Int32) => w_md gm cA u) A) A) args s 0 0 A) (F0 m 137 ls [.int s0, .int s1]) := by
    intro K um x1 x2 x3 x5 x6 x7 x8 x9 s0 s1 hw hk H locs ls hP hD hS hl
    refine lv_iadd hx hb dX4_mark_137 ?_
    refine lv_topi (fun v7 e_v7 => ?_)
    replace hw := hw v7 e_v7
    refine lv_istore (lv' := [(4, .int v7), (0, .ref (gm 0)), (1, .int x1), (2, .int x2), (3, .int x3), (5, .int x5), (6, .int x6), (7, .int x7), (8, .int x8), (9, .int x9)]) hx hb dX4_mark_138 hl (by decide) rfl (fun ls hl => ?_)
    refine lv_iconst (v := 0) hx hb dX4_mark_140 (by decide) ?_
    refine lv_istore (lv' := [(10, .int 0), (4, .int v7), (0, .ref (gm 0)), (1, .int x1), (2, .int x2), (3, .int x3), (5, .int x5), (6, .int x6), (7, .int x7), (8, .int x8), (9, .int x9)]) hx hb dX4_mark_141 hl (by decide) rfl (fun ls hl => ?_)
    obtain ⟨N143, hw⟩ := hw
    refine L143 _ _ _ _ _ _ _ _ _ _ (fun um11 hw H locs ls hP hD hS hl => ?_) N143 _ _ hw _ _ _ hP hD hS (lv_sub hl [2, 3, 4, 5, 1, 6, 7, 8, 9, 10, 0] rfl)
    refine lv_aload_n hx hb dX4_mark_169 rfl (lv_at hl 0 rfl) ?_
    refine lv_aload_n hx hb dX4_mark_170 rfl (lv_at hl 0 rfl) ?_
    have hPc : va_P (dC, dI) vwCl (w_md gm cA um11) _ := hP
    refine vp_callSi (va_Run.run (va_runV (As := []) (rest := [.ref (gm 0)]) ⟨hx, hb, hml, hown, hts⟩ (c_X4_here l dC dI cA gm um11 _ hw) (gcV 0 hts m733 m730 m732 m19 m24 rfl rfl (by decide +kernel) ⟨Nat.le_of_ble_eq_true rfl, Nat.le_of_ble_eq_true rfl⟩) ⟨xbl1, va_recv hK hPc (ci := 3) (q0 := 0) rfl rfl, fun U hU hW => ⟨rfl, by rw [hU]; exact hPc, va_K.moved hW.alike hK⟩⟩ rfl rfl hl.1 rfl (lv_room (Nat.le_of_ble_eq_true rfl)) dX4_mark_171 ⟨Nat.le_of_ble_eq_true rfl, Nat.le_of_ble_eq_true rfl⟩)) (fun r12 hw => ?_)
    refine lv_iload hx hb dX4_mark_174 (lv_at hl 7 rfl) ?_
    refine lv_iload_n hx hb dX4_mark_176 rfl (lv_at hl 1 rfl) ?_
    refine lv_iload hx hb dX4_mark_177 (lv_at hl 8 rfl) ?_
    refine lv_iload hx hb dX4_mark_179 (lv_at hl 9 rfl) ?_
    have hPc : va_P (dC, dI) vwCl (w_md gm cA um11) _ := hP
    have hDc := hD.sub (ws' := (w_md gm cA um11)) [0, 1, 2, 3, 4, 5, 6, 7, 8, 9, 10, 11, 12, 13, 14, 15] (by decide) rfl
    have hFc := va_free (wc := (w_md gm cA um11)) hD hS hA [0, 1, 2, 3, 4, 5, 6, 7, 8, 9, 10, 11, 12, 13, 14, 15] rfl
    refine va_callv (va_runV (As := [.int r12, .int x7, .int x1, .int x8, .int x9]) (rest := []) ⟨hx, hb, hml, hown, hts⟩ (c_X4_put l dC dI cA gm _ um11 r12 x7 x1 x8 x9 _ hw) (gcV 5 hts m648 m645 m647 m13 m24 rfl rfl (by decide +kernel) ⟨Nat.le_of_ble_eq_true rfl, Nat.le_of_ble_eq_true rfl⟩) ⟨xbl2, va_recv hK hPc (ci := 3) (q0 := 0) rfl rfl, fun U hU hW => ⟨rfl, by rw [hU], by rw [hU]; exact hPc, va_K.moved hW.alike hK, hDc.weaken (fun _ _ _ _ => trivial)⟩⟩ rfl rfl hl.1 rfl (lv_room (Nat.le_of_ble_eq_true rfl)) dX4_mark_181 ⟨Nat.le_of_ble_eq_true rfl, Nat.le_of_ble_eq_true rfl⟩) hS (fun q _ h => hFc q h) hFc (fun u t H1 locs ht hvm hw hB hz1 hk1 hS => ?_)
    obtain ⟨um14, e_u⟩ : ∃ z, z = u := ⟨_, rfl⟩
    subst e_u
    obtain ⟨hP1, hK1, hD1⟩ := hB
    rw [ht] at hP1
    have hP : va_P (dC, dI) vwCl (w_md gm cA um14) H1 := hP1
    have hD : va_D A (w_md gm cA um14) := hD1.weaken (fun k q hk h => hFc q.1 h)
    clear hP1 hD1 hK1 hk1 hz1 hFc hDc hPc ht
    generalize H1 = H at hP hS ⊢
    obtain ⟨v15, e_v15⟩ : ∃ y : Int32, y = x6 + 1 := ⟨_, rfl⟩
    replace hw := hw v15 e_v15
    refine lv_iinc (v := v15) (lv' := [(6, .int v15), (0, .ref (gm 0)), (1, .int x1), (2, .int x2), (3, .int x3), (4, .int v7), (5, .int x5), (7, .int x7), (8, .int x8), (9, .int x9)]) hx hb dX4_mark_184 hl (k := 6) rfl (by rw [e_v15]; rfl) (by decide) rfl (fun ls hl => ?_)
    refine lv_goto (tgt := 79) hx hb dX4_mark_187 (by decide) ?_
    exact hk _ _ _ hw _ _ _ hP hD hS (lv_sub hl [1, 2, 3, 4, 5, 6, 0] rfl)
  have L79 : ∀ (KX : (Nat → Nat → Int32) → Int32 → Prop) (x1 : Int32) (x2 : Int32) (x3 : Int32) (x5 : Int32), (∀ (um : Nat → Nat → Int32) (x4 : Int32), KX um x4 → ∀ (H : Heap) (locs : List Loc) (ls : Array Slot), va_P (dC, dI) vwCl (w_md gm cA um) H → va_D A (w_md gm cA um) → va_S A s.heap H locs → lv_has ls 11 [(0, .ref (gm 0)), (1, .int x1), (2, .int x2), (3, .int x3), (4, .int x4), (5, .int x5)] → W p l e (headSpec wX4_mark rm_X4_mark).room s m args below meth c H locs 0 0 (MQ below (va_Qi (fun r (u : (Nat → Nat → Int32)) => P r u) (xB dC dI cA (fun u : (Nat → Nat → Int32) => w_md gm cA u) A) A) args s 0 0 A) (F0 m 190 ls [])) → ∀ (N : Nat) (um : Nat → Nat → Int32) (x4 : Int32) (x6 : Int32), wp_X4_mark_79 KX x1 x2 x3 x5 N um x4 x6 → ∀ (H : Heap) (locs : List Loc) (ls : Array Slot), va_P (dC, dI) vwCl (w_md gm cA um) H → va_D A (w_md gm cA um) → va_S A s.heap H locs → lv_has ls 11 [(0, .ref (gm 0)), (1, .int x1), (2, .int x2), (3, .int x3), (4, .int x4), (5, .int x5), (6, .int x6)] → W p l e (headSpec wX4_mark rm_X4_mark).room s m args below meth c H locs 0 0 (MQ below (va_Qi (fun r (u : (Nat → Nat → Int32)) => P r u) (xB dC dI cA (fun u : (Nat → Nat → Int32) => w_md gm cA u) A) A) args s 0 0 A) (F0 m 79 ls []) := by
    intro KX x1 x2 x3 x5 hx2 N79
    induction N79 with
    | zero =>
      intro um x4 x6 hw
      exact False.elim hw
    | succ N79 hk =>
      intro um x4 x6 hw H locs ls hP hD hS hl
      rw [wp_X4_mark_79] at hw
      refine lv_iload hx hb dX4_mark_79 (lv_at hl 6 rfl) ?_
      refine lv_aload_n hx hb dX4_mark_81 rfl (lv_at hl 0 rfl) ?_
      refine va_get (D := (dC, dI)) (ci := 3) (v := .int (um 0 1)) (C := RX4) (T := TX4) (N := 23) hx hb hts iX4 hown hK hP 0 rfl rfl 1 (by decide) (hts _ (xm m529)) (fun _ h9 => h9) rfl dX4_mark_82 ?_
      refine lv_icmp_ge (tgt := 190) hx hb dX4_mark_85 (by decide) (fun c17 => ?_) (fun c17 => ?_)
      · replace hw := And.left hw c17
        exact hx2 _ _ hw _ _ _ hP hD hS (lv_sub hl [0, 1, 2, 3, 4, 5] rfl)
      · replace hw := And.right hw c17
        refine lv_aload_n hx hb dX4_mark_88 rfl (lv_at hl 0 rfl) ?_
        refine lv_iload hx hb dX4_mark_89 (lv_at hl 6 rfl) ?_
        refine lv_iload hx hb dX4_mark_91 (lv_at hl 5 rfl) ?_
        have hPc : va_P (dC, dI) vwCl (w_md gm cA um) _ := hP
        refine vp_callSi (va_Run.run (va_runV (As := [.int x6, .int x5]) (rest := []) ⟨hx, hb, hml, hown, hts⟩ (c_X4_pointAt l dC dI cA gm um x6 x5 _ hw) (gcV 2 hts m636 m633 m635 m10 m24 rfl rfl (by decide +kernel) ⟨Nat.le_of_ble_eq_true rfl, Nat.le_of_ble_eq_true rfl⟩) ⟨xbl1, va_recv hK hPc (ci := 3) (q0 := 0) rfl rfl, fun U hU hW => ⟨rfl, by rw [hU]; exact hPc, va_K.moved hW.alike hK⟩⟩ rfl rfl hl.1 rfl (lv_room (Nat.le_of_ble_eq_true rfl)) dX4_mark_93 ⟨Nat.le_of_ble_eq_true rfl, Nat.le_of_ble_eq_true rfl⟩)) (fun r3 hw => ?_)
        refine lv_istore (lv' := [(7, .int r3), (0, .ref (gm 0)), (1, .int x1), (2, .int x2), (3, .int x3), (4, .int x4), (5, .int x5), (6, .int x6)]) hx hb dX4_mark_96 hl (by decide) rfl (fun ls hl => ?_)
        refine lv_aload_n hx hb dX4_mark_98 rfl (lv_at hl 1 rfl) ?_
        refine va_get (D := (dC, dI)) (ci := 3) (v := .ref (gm 9)) (C := RX4) (T := TX4) (N := 23) hx hb hts iX4 hown hK hP 0 rfl rfl 15 (by decide) (hts _ (xm m543)) (fun _ h9 => h9) rfl dX4_mark_99 ?_
        refine lv_iload hx hb dX4_mark_102 (lv_at hl 0 rfl) ?_
        refine va_iald hx hb hK hP 9 0 rfl rfl (And.left hw) dX4_mark_104 ?_
        replace hw := And.right hw
        refine lv_iload_n hx hb dX4_mark_105 rfl (lv_at hl 3 rfl) ?_
        refine vp_callSi (va_Run.run (va_runS (As := [.int (um 9 r3.toNatClampNeg), .int x2]) (rest := []) ⟨hx, hb, hml, hown, hts⟩ (c_X4_mul l (um 9 r3.toNatClampNeg) x2 _ hw) (gcS 2 hts m621 m619 m620 m24 rfl rfl (by decide +kernel) ⟨Nat.le_of_ble_eq_true rfl, Nat.le_of_ble_eq_true rfl⟩) ⟨xbl0, fun U hU hW => ⟨rfl, trivial⟩⟩ rfl rfl hl.1 rfl (lv_room (Nat.le_of_ble_eq_true rfl)) dX4_mark_106 ⟨Nat.le_of_ble_eq_true rfl, Nat.le_of_ble_eq_true rfl⟩)) (fun r4 hw => ?_)
        refine lv_istore (lv' := [(8, .int r4), (7, .int r3), (0, .ref (gm 0)), (1, .int x1), (2, .int x2), (3, .int x3), (4, .int x4), (5, .int x5), (6, .int x6)]) hx hb dX4_mark_109 hl (by decide) rfl (fun ls hl => ?_)
        refine lv_aload_n hx hb dX4_mark_111 rfl (lv_at hl 2 rfl) ?_
        refine lv_iload hx hb dX4_mark_112 (lv_at hl 0 rfl) ?_
        refine lv_iload_n hx hb dX4_mark_114 rfl (lv_at hl 5 rfl) ?_
        refine vp_callSi (va_Run.run (va_runS (As := [.int r4, .int x3]) (rest := [.ref (gm 0)]) ⟨hx, hb, hml, hown, hts⟩ (c_X4_mul l r4 x3 _ hw) (gcS 2 hts m621 m619 m620 m24 rfl rfl (by decide +kernel) ⟨Nat.le_of_ble_eq_true rfl, Nat.le_of_ble_eq_true rfl⟩) ⟨xbl0, fun U hU hW => ⟨rfl, trivial⟩⟩ rfl rfl hl.1 rfl (lv_room (Nat.le_of_ble_eq_true rfl)) dX4_mark_115 ⟨Nat.le_of_ble_eq_true rfl, Nat.le_of_ble_eq_true rfl⟩)) (fun r5 hw => ?_)
        refine lv_iload hx hb dX4_mark_118 (lv_at hl 1 rfl) ?_
        have hPc : va_P (dC, dI) vwCl (w_md gm cA um) _ := hP
        refine vp_callSi (va_Run.run (va_runV (As := [.int r5, .int r3]) (rest := []) ⟨hx, hb, hml, hown, hts⟩ (c_X4_leaves l dC dI cA gm um r5 r3 _ hw) (gcV 2 hts m644 m641 m643 m12 m24 rfl rfl (by decide +kernel) ⟨Nat.le_of_ble_eq_true rfl, Nat.le_of_ble_eq_true rfl⟩) ⟨xbl1, va_recv hK hPc (ci := 3) (q0 := 0) rfl rfl, fun U hU hW => ⟨rfl, by rw [hU]; exact hPc, va_K.moved hW.alike hK⟩⟩ rfl rfl hl.1 rfl (lv_room (Nat.le_of_ble_eq_true rfl)) dX4_mark_120 ⟨Nat.le_of_ble_eq_true rfl, Nat.le_of_ble_eq_true rfl⟩)) (fun r6 hw => ?_)
        refine lv_istore (lv' := [(9, .int r6), (8, .int r4), (7, .int r3), (0, .ref (gm 0)), (1, .int x1), (2, .int x2), (3, .int x3), (4, .int x4), (5, .int x5), (6, .int x6)]) hx hb dX4_mark_123 hl (by decide) rfl (fun ls hl => ?_)
        refine lv_iload hx hb dX4_mark_125 (lv_at hl 7 rfl) ?_
        refine lv_iload hx hb dX4_mark_127 (lv_at hl 0 rfl) ?_
        refine lv_if_le (tgt := 136) hx hb dX4_mark_129 (by decide) (fun c16 => ?_) (fun c16 => ?_)
        · replace hw := And.left hw c16
          refine lv_iconst (v := 0) hx hb dX4_mark_136 (by decide) ?_
          exact J137 _ _ _ _ _ _ _ _ _ _ _ _ hw hk _ _ _ hP hD hS (lv_sub hl [3, 4, 5, 6, 8, 9, 2, 1, 0] rfl)
        · replace hw := And.right hw c16
          refine lv_iconst (v := 1) hx hb dX4_mark_132 (by decide) ?_
          refine lv_goto (tgt := 137) hx hb dX4_mark_133 (by decide) ?_
          exact J137 _ _ _ _ _ _ _ _ _ _ _ _ hw hk _ _ _ hP hD hS (lv_sub hl [3, 4, 5, 6, 8, 9, 2, 1, 0] rfl)
  have L60 : ∀ (KX : (Nat → Nat → Int32) → Int32 → Prop) (x1 : Int32) (x2 : Int32) (x3 : Int32), (∀ (um : Nat → Nat → Int32) (x4 : Int32), KX um x4 → ∀ (H : Heap) (locs : List Loc) (ls : Array Slot), va_P (dC, dI) vwCl (w_md gm cA um) H → va_D A (w_md gm cA um) → va_S A s.heap H locs → lv_has ls 11 [(4, .int x4)] → W p l e (headSpec wX4_mark rm_X4_mark).room s m args below meth c H locs 0 0 (MQ below (va_Qi (fun r (u : (Nat → Nat → Int32)) => P r u) (xB dC dI cA (fun u : (Nat → Nat → Int32) => w_md gm cA u) A) A) args s 0 0 A) (F0 m 196 ls [])) → ∀ (N : Nat) (um : Nat → Nat → Int32) (x4 : Int32) (x5 : Int32), wp_X4_mark_60 KX x1 x2 x3 N um x4 x5 → ∀ (H : Heap) (locs : List Loc) (ls : Array Slot), va_P (dC, dI) vwCl (w_md gm cA um) H → va_D A (w_md gm cA um) → va_S A s.heap H locs → lv_has ls 11 [(0, .ref (gm 0)), (1, .int x1), (2, .int x2), (3, .int x3), (4, .int x4), (5, .int x5)] → W p l e (headSpec wX4_mark rm_X4_mark).room s m args below meth c H locs 0 0 (MQ below (va_Qi (fun r (u : (Nat → Nat → Int32)) => P r u) (xB dC dI cA (fun u : (Nat → Nat → Int32) => w_md gm cA u) A) A) args s 0 0 A) (F0 m 60 ls []) := by
    intro KX x1 x2 x3 hx2 N60
    induction N60 with
    | zero =>
      intro um x4 x5 hw
      exact False.elim hw
    | succ N60 hk =>
      intro um x4 x5 hw H locs ls hP hD hS hl
      rw [wp_X4_mark_60] at hw
      refine lv_iload hx hb dX4_mark_60 (lv_at hl 5 rfl) ?_
      refine lv_aload_n hx hb dX4_mark_62 rfl (lv_at hl 0 rfl) ?_
      refine va_get (D := (dC, dI)) (ci := 3) (v := .int (um 0 2)) (C := RX4) (T := TX4) (N := 23) hx hb hts iX4 hown hK hP 0 rfl rfl 2 (by decide) (hts _ (xm m530)) (fun _ h9 => h9) rfl dX4_mark_63 ?_
      refine lv_icmp_ge (tgt := 196) hx hb dX4_mark_66 (by decide) (fun c22 => ?_) (fun c22 => ?_)
      · replace hw := And.left hw c22
        exact hx2 _ _ hw _ _ _ hP hD hS (lv_sub hl [4] rfl)
      · replace hw := And.right hw c22
        refine lv_aload_n hx hb dX4_mark_69 rfl (lv_at hl 0 rfl) ?_
        refine va_get (D := (dC, dI)) (ci := 3) (v := .int (um 0 0)) (C := RX4) (T := TX4) (N := 23) hx hb hts iX4 hown hK hP 0 rfl rfl 0 (by decide) (hts _ (xm m528)) (fun _ h9 => h9) rfl dX4_mark_70 ?_
        refine lv_if_ne (tgt := 196) hx hb dX4_mark_73 (by decide) (fun c21 => ?_) (fun c21 => ?_)
        · replace hw := And.left hw c21
          exact hx2 _ _ hw _ _ _ hP hD hS (lv_sub hl [4] rfl)
        · replace hw := And.right hw c21
          refine lv_iconst (v := 0) hx hb dX4_mark_76 (by decide) ?_
          refine lv_istore (lv' := [(6, .int 0), (0, .ref (gm 0)), (1, .int x1), (2, .int x2), (3, .int x3), (4, .int x4), (5, .int x5)]) hx hb dX4_mark_77 hl (by decide) rfl (fun ls hl => ?_)
          obtain ⟨N79, hw⟩ := hw
          refine L79 _ _ _ _ _ (fun um18 y19 hw H locs ls hP hD hS hl => ?_) N79 _ _ _ hw _ _ _ hP hD hS (lv_sub hl [1, 2, 3, 4, 5, 6, 0] rfl)
          obtain ⟨v20, e_v20⟩ : ∃ y : Int32, y = x5 + 1 := ⟨_, rfl⟩
          replace hw := hw v20 e_v20
          refine lv_iinc (v := v20) (lv' := [(5, .int v20), (0, .ref (gm 0)), (1, .int x1), (2, .int x2), (3, .int x3), (4, .int y19)]) hx hb dX4_mark_190 hl (k := 5) rfl (by rw [e_v20]; rfl) (by decide) rfl (fun ls hl => ?_)
          refine lv_goto (tgt := 60) hx hb dX4_mark_193 (by decide) ?_
          exact hk _ _ _ hw _ _ _ hP hD hS (lv_sub hl [1, 2, 3, 4, 5, 0] rfl)
  have J53 : ∀ (um : Nat → Nat → Int32) (x1 : Int32) (x2 : Int32) (x3 : Int32) (x4 : Int32) (s0 : Int32) (s1 : Int32), wp_X4_mark_53 P um x1 x2 x3 x4 s0 s1 → ∀ (H : Heap) (locs : List Loc) (ls : Array Slot), va_P (dC, dI) vwCl (w_md gm cA um) H → va_D A (w_md gm cA um) → va_S A s.heap H locs → lv_has ls 11 [(0, .ref (gm 0)), (1, .int x1), (2, .int x2), (3, .int x3), (4, .int x4)] → W p l e (headSpec wX4_mark rm_X4_mark).room s m args below meth c H locs 0 0 (MQ below (va_Qi (fun r (u : (Nat → Nat → Int32)) => P r u) (xB dC dI cA (fun u : (Nat → Nat → Int32) => w_md gm cA u) A) A) args s 0 0 A) (F0 m 53 ls [.int s0, .int s1, .ref (gm 0)]) := by
    intro  um x1 x2 x3 x4 s0 s1 hw H locs ls hP hD hS hl
    refine lv_iadd hx hb dX4_mark_53 ?_
    obtain ⟨um2, e_um2⟩ : ∃ z, z = st um 0 7 (s1 + s0) := ⟨_, rfl⟩
    refine va_put (D := (dC, dI)) (ci := 3) (v := .int (s1 + s0)) (ty := .int) (C := RX4) (T := TX4) (N := 23) hx hb hts iX4 tyX4 tyX4_ok nmX4 hown hK hP hD hS 0 rfl rfl 18 (by decide) (hts _ (xm m546)) (fun _ h9 => h9) rfl (by decide +kernel) rfl rfl (Nat.le_of_ble_eq_true rfl) dX4_mark_54 (fun H locs hP hD hS => ?_)
    replace hw := hw um2 e_um2
    have hP : va_P (dC, dI) vwCl (w_md gm cA um2) H := by rw [e_um2]; exact hP
    have hD : va_D A (w_md gm cA um2) := by rw [e_um2]; exact hD
    refine lv_iconst (v := 0) hx hb dX4_mark_57 (by decide) ?_
    refine lv_istore (lv' := [(5, .int 0), (0, .ref (gm 0)), (1, .int x1), (2, .int x2), (3, .int x3), (4, .int x4)]) hx hb dX4_mark_58 hl (by decide) rfl (fun ls hl => ?_)
    obtain ⟨N60, hw⟩ := hw
    refine L60 _ _ _ _ (fun um23 y24 hw H locs ls hP hD hS hl => ?_) N60 _ _ _ hw _ _ _ hP hD hS (lv_sub hl [1, 2, 3, 4, 5, 0] rfl)
    refine lv_iload hx hb dX4_mark_196 (lv_at hl 0 rfl) ?_
    exact W.iret hx hb hr (fun t ht hW => ⟨⟨_, um23, rfl, hw, by rw [ht]; exact hP, va_K.moved hW.alike hK, hD⟩, hS.F ht⟩) hS.2.2 dX4_mark_198
  have J30 : ∀ (um : Nat → Nat → Int32) (x1 : Int32) (x2 : Int32) (x3 : Int32) (s0 : Int32), wp_X4_mark_30 P um x1 x2 x3 s0 → ∀ (H : Heap) (locs : List Loc) (ls : Array Slot), va_P (dC, dI) vwCl (w_md gm cA um) H → va_D A (w_md gm cA um) → va_S A s.heap H locs → lv_has ls 11 [(0, .ref (gm 0)), (1, .int x1), (2, .int x2), (3, .int x3)] → W p l e (headSpec wX4_mark rm_X4_mark).room s m args below meth c H locs 0 0 (MQ below (va_Qi (fun r (u : (Nat → Nat → Int32)) => P r u) (xB dC dI cA (fun u : (Nat → Nat → Int32) => w_md gm cA u) A) A) args s 0 0 A) (F0 m 30 ls [.int s0, .ref (gm 0)]) := by
    intro  um x1 x2 x3 s0 hw H locs ls hP hD hS hl
    obtain ⟨um1, e_um1⟩ : ∃ z, z = st um 0 0 s0 := ⟨_, rfl⟩
    refine va_put (D := (dC, dI)) (ci := 3) (v := .int s0) (ty := .int) (C := RX4) (T := TX4) (N := 23) hx hb hts iX4 tyX4 tyX4_ok nmX4 hown hK hP hD hS 0 rfl rfl 0 (by decide) (hts _ (xm m528)) (fun _ h9 => h9) rfl (by decide +kernel) rfl rfl (Nat.le_of_ble_eq_true rfl) dX4_mark_30 (fun H locs hP hD hS => ?_)
    replace hw := hw um1 e_um1
    have hP : va_P (dC, dI) vwCl (w_md gm cA um1) H := by rw [e_um1]; exact hP
    have hD : va_D A (w_md gm cA um1) := by rw [e_um1]; exact hD
    refine lv_iconst (v := 0) hx hb dX4_mark_33 (by decide) ?_
    refine lv_istore (lv' := [(4, .int 0), (0, .ref (gm 0)), (1, .int x1), (2, .int x2), (3, .int x3)]) hx hb dX4_mark_34 hl (by decide) rfl (fun ls hl => ?_)
    refine lv_aload_n hx hb dX4_mark_36 rfl (lv_at hl 1 rfl) ?_
    refine lv_dup hx hb dX4_mark_37 rfl ?_
    refine va_get (D := (dC, dI)) (ci := 3) (v := .int (um1 0 7)) (C := RX4) (T := TX4) (N := 23) hx hb hts iX4 hown hK hP 0 rfl rfl 18 (by decide) (hts _ (xm m546)) (fun _ h9 => h9) rfl dX4_mark_38 ?_
    refine lv_aload_n hx hb dX4_mark_41 rfl (lv_at hl 1 rfl) ?_
    refine va_get (D := (dC, dI)) (ci := 3) (v := .int (um1 0 0)) (C := RX4) (T := TX4) (N := 23) hx hb hts iX4 hown hK hP 0 rfl rfl 0 (by decide) (hts _ (xm m528)) (fun _ h9 => h9) rfl dX4_mark_42 ?_
    refine lv_if_ne (tgt := 52) hx hb dX4_mark_45 (by decide) (fun c25 => ?_) (fun c25 => ?_)
    · replace hw := And.left hw c25
      refine lv_iconst (v := 0) hx hb dX4_mark_52 (by decide) ?_
      exact J53 _ _ _ _ _ _ _ hw _ _ _ hP hD hS (lv_sub hl [1, 2, 3, 4, 0] rfl)
    · replace hw := And.right hw c25
      refine lv_iconst (v := 1) hx hb dX4_mark_48 (by decide) ?_
      refine lv_goto (tgt := 53) hx hb dX4_mark_49 (by decide) ?_
      exact J53 _ _ _ _ _ _ _ hw _ _ _ hP hD hS (lv_sub hl [1, 2, 3, 4, 0] rfl)
  have J25 : ∀ (um : Nat → Nat → Int32) (x1 : Int32) (x2 : Int32) (x3 : Int32), wp_X4_mark_25 P um x1 x2 x3 → ∀ (H : Heap) (locs : List Loc) (ls : Array Slot), va_P (dC, dI) vwCl (w_md gm cA um) H → va_D A (w_md gm cA um) → va_S A s.heap H locs → lv_has ls 11 [(0, .ref (gm 0)), (1, .int x1), (2, .int x2), (3, .int x3)] → W p l e (headSpec wX4_mark rm_X4_mark).room s m args below meth c H locs 0 0 (MQ below (va_Qi (fun r (u : (Nat → Nat → Int32)) => P r u) (xB dC dI cA (fun u : (Nat → Nat → Int32) => w_md gm cA u) A) A) args s 0 0 A) (F0 m 25 ls [.ref (gm 0)]) := by
    intro  um x1 x2 x3 hw H locs ls hP hD hS hl
    refine lv_iconst (v := 1) hx hb dX4_mark_25 (by decide) ?_
    refine lv_goto (tgt := 30) hx hb dX4_mark_26 (by decide) ?_
    exact J30 _ _ _ _ _ hw _ _ _ hP hD hS (lv_sub hl [0, 1, 2, 3] rfl)
  have hl := lv_entry ([.ref (gm 0), .int p0, .int p1, .int p2]) (n := 11) (Nat.le_of_ble_eq_true rfl)
  rw [show entryFrame m args 11 = entryFrame m (([.ref (gm 0), .int p0, .int p1, .int p2] : List Value).toArray) 11 from by rw [hargs], lg_entry_eq]
  generalize (lg_sl ([.ref (gm 0), .int p0, .int p1, .int p2]) ++ List.replicate (11 - (lg_sl ([.ref (gm 0), .int p0, .int p1, .int p2])).length) Slot.unset).toArray = ls at hl ⊢
  have hl : lv_has ls 11 [(0, .ref (gm 0)), (1, .int p0), (2, .int p1), (3, .int p2)] := hl
  have hP : va_P (dC, dI) vwCl (w_md gm cA um) s.heap := hP
  refine lv_aload_n hx hb dX4_mark_0 rfl (lv_at hl 0 rfl) ?_
  refine lv_iload_n hx hb dX4_mark_1 rfl (lv_at hl 1 rfl) ?_
  refine lv_if_lt (tgt := 25) hx hb dX4_mark_2 (by decide) (fun c31 => ?_) (fun c31 => ?_)
  · replace hw := And.left hw c31
    exact J25 _ _ _ _ hw _ _ _ hP hD hS (lv_sub hl [0, 1, 2, 3] rfl)
  · replace hw := And.right hw c31
    refine lv_iload_n hx hb dX4_mark_5 rfl (lv_at hl 1 rfl) ?_
    refine lv_bipush (v := 15) hx hb dX4_mark_6 (by decide) ?_
    refine lv_icmp_gt (tgt := 25) hx hb dX4_mark_8 (by decide) (fun c30 => ?_) (fun c30 => ?_)
    · replace hw := And.left hw c30
      exact J25 _ _ _ _ hw _ _ _ hP hD hS (lv_sub hl [0, 1, 2, 3] rfl)
    · replace hw := And.right hw c30
      refine lv_iload_n hx hb dX4_mark_11 rfl (lv_at hl 2 rfl) ?_
      refine vp_callSi (va_Run.run (va_runS (As := [.int p1]) (rest := [.ref (gm 0)]) ⟨hx, hb, hml, hown, hts⟩ (c_X4_isByte l p1 _ hw) (gcS 1 hts m628 m626 m627 m24 rfl rfl (by decide +kernel) ⟨Nat.le_of_ble_eq_true rfl, Nat.le_of_ble_eq_true rfl⟩) ⟨xbl0, fun U hU hW => ⟨rfl, trivial⟩⟩ rfl rfl hl.1 rfl (lv_room (Nat.le_of_ble_eq_true rfl)) dX4_mark_12 ⟨Nat.le_of_ble_eq_true rfl, Nat.le_of_ble_eq_true rfl⟩)) (fun r26 hw => ?_)
      refine lv_if_eq (tgt := 25) hx hb dX4_mark_15 (by decide) (fun c29 => ?_) (fun c29 => ?_)
      · replace hw := And.left hw c29
        exact J25 _ _ _ _ hw _ _ _ hP hD hS (lv_sub hl [0, 1, 2, 3] rfl)
      · replace hw := And.right hw c29
        refine lv_iload_n hx hb dX4_mark_18 rfl (lv_at hl 3 rfl) ?_
        refine vp_callSi (va_Run.run (va_runS (As := [.int p2]) (rest := [.ref (gm 0)]) ⟨hx, hb, hml, hown, hts⟩ (c_X4_isByte l p2 _ hw) (gcS 1 hts m628 m626 m627 m24 rfl rfl (by decide +kernel) ⟨Nat.le_of_ble_eq_true rfl, Nat.le_of_ble_eq_true rfl⟩) ⟨xbl0, fun U hU hW => ⟨rfl, trivial⟩⟩ rfl rfl hl.1 rfl (lv_room (Nat.le_of_ble_eq_true rfl)) dX4_mark_19 ⟨Nat.le_of_ble_eq_true rfl, Nat.le_of_ble_eq_true rfl⟩)) (fun r27 hw => ?_)
        refine lv_if_ne (tgt := 29) hx hb dX4_mark_22 (by decide) (fun c28 => ?_) (fun c28 => ?_)
        · replace hw := And.left hw c28
          refine lv_iconst (v := 0) hx hb dX4_mark_29 (by decide) ?_
          exact J30 _ _ _ _ _ hw _ _ _ hP hD hS (lv_sub hl [0, 1, 2, 3] rfl)
        · replace hw := And.right hw c28
          exact J25 _ _ _ _ hw _ _ _ hP hD hS (lv_sub hl [0, 1, 2, 3] rfl)
