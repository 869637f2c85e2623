theorem m56 : Cond.fieldLink RX0 9 "BlendRows$Layer" "size" "I" ∈ gG := gG_mk (i := 56) (by decide +kernel) (by decide +kernel)
theorem m247 : Cond.methodLink RX0 35 yX0_colourAt ∈ gG := gG_mk (i := 247) (by decide +kernel) (by decide +kernel)
theorem m248 : Cond.instanceMethod yX0_colourAt ∈ gG := gG_mk (i := 248) (by decide +kernel) (by decide +kernel)
theorem m249 : Cond.selects RX0 yX0_colourAt yX0_colourAt ∈ gG := gG_mk (i := 249) (by decide +kernel) (by decide +kernel)
theorem m250 : Cond.code yX0_colourAt cX0_colourAt 2 (some .int) ∈ gG := gG_mk (i := 250) (by decide +kernel) (by decide +kernel)
abbrev wX0_begin : List Cond := Cond.code yX0_begin cX0_begin 5 none :: gG
def wp_X0_begin_58 (n : Nat) (K : (Nat → Nat → Int32) → (Nat → Nat → Int32) → Int32 → Prop) (ub : Nat → Nat → Int32) (uc : Nat → Nat → Int32) (x2 : Int32) (x4 : Int32) (s0 : Int32) (s1 : Int32) : Prop :=
  (vp_in s1 n ∧ ∀ ub5 : Nat → Nat → Int32, ub5 = st ub 2 s1.toNatClampNeg s0 → (vp_in x4 n ∧ (vp_in x4 n ∧ ∀ ub6 : Nat → Nat → Int32, ub6 = st ub5 3 x4.toNatClampNeg (ub5 1 x4.toNatClampNeg) → (vp_in x4 n ∧ ∀ ub7 : Nat → Nat → Int32, ub7 = st ub6 4 x4.toNatClampNeg 0 → (vp_in x4 n ∧ ∀ ub8 : Nat → Nat → Int32, ub8 = st ub7 5 x4.toNatClampNeg 0 → ∀ v9 : Int32, v9 = x4 + 1 → K ub8 uc v9)))))
def wp_X0_begin_37 (n : Nat) (K : (Nat → Nat → Int32) → (Nat → Nat → Int32) → Int32 → Prop) (ub : Nat → Nat → Int32) (uc : Nat → Nat → Int32) (x2 : Int32) (x4 : Int32) (s0 : Int32) (s1 : Int32) : Prop :=
  (vp_in s1 n ∧ ∀ ub3 : Nat → Nat → Int32, ub3 = st ub 1 s1.toNatClampNeg s0 → ((x2 = 0 → wp_X0_wholeAlpha n uc x4 (fun r4 => wp_X0_begin_58 n K ub3 uc x2 x4 r4 x4)) ∧
  (¬ x2 = 0 → wp_X0_begin_58 n K ub3 uc x2 x4 0 x4)))
def wp_X0_begin_8 (n : Nat) (KX : (Nat → Nat → Int32) → (Nat → Nat → Int32) → Prop) (x2 : Int32) : Nat → (Nat → Nat → Int32) → (Nat → Nat → Int32) → Int32 → Prop
  | 0, _, _, _ => False
  | N8 + 1, ub, uc, x4 =>
    (((ub 0 0) ≤ x4 → KX ub uc) ∧
  (¬ (ub 0 0) ≤ x4 → ((x2 = 0 → wp_X0_colourAt n uc x4 (fun r2 => wp_X0_begin_37 n (wp_X0_begin_8 n KX x2 N8) ub uc x2 x4 r2 x4)) ∧
  (¬ x2 = 0 → wp_X0_begin_37 n (wp_X0_begin_8 n KX x2 N8) ub uc x2 x4 0 x4))))
def wp_X0_begin (n : Nat) (ub : Nat → Nat → Int32) (uc : Nat → Nat → Int32) (p1 : Int32) (p2 : Int32) (P : (Nat → Nat → Int32) → (Nat → Nat → Int32) → Prop) : Prop :=
  (bz p2 ∧ ∀ ub1 : Nat → Nat → Int32, ub1 = st ub 0 1 p2 → (∃ N8, wp_X0_begin_8 n (fun (ub13 : Nat → Nat → Int32) (uc14 : Nat → Nat → Int32) => P ub13 uc14) p1 N8 ub1 uc 0))
abbrev rm_X0_begin : Room := { frames := 3, cells := 0, slots := 0, locals := 63 }
set_option maxHeartbeats 4000000 in
set_option maxRecDepth 100000 in
theorem c_X0_begin (l : Launch) (dC : Nat → ClassId) (dI : Nat → Nat → Nat) (cA : Nat → ClassId) (g : Nat → Nat) (g2 : Nat → Nat) (n : Nat) (sz : Nat) (ub : Nat → Nat → Int32) (uc : Nat → Nat → Int32) (p1 : Int32) (p2 : Int32) (P : (Nat → Nat → Int32) → (Nat → Nat → Int32) → Prop) (hw : wp_X0_begin n ub uc p1 p2 P) : Met l yX0_begin wX0_begin rm_X0_begin (xP2 dC dI cA (w_ly g cA n ub ++ w_ly g2 cA n uc) sz [.ref (g 0), .ref (g2 0), .int p1, .int p2]) (va_Qv (fun (u : (Nat → Nat → Int32) × (Nat → Nat → Int32)) => P (u.1) (u.2)) (xB dC dI cA (fun u : (Nat → Nat → Int32) × (Nat → Nat → Int32) => w_ly g cA n (u.1) ++ w_ly g2 cA n (u.2)) (va_A (w_ly g cA n ub ++ w_ly g2 cA n uc) sz)) (va_A (w_ly g cA n ub ++ w_ly g2 cA n uc) sz)) 0 0 (va_A (w_ly g cA n ub ++ w_ly g2 cA n uc) sz) := by
  refine Met.ofW (cc := cX0_begin) (maxL := 5) (ret := none) (by decide) rfl ?_
  intro p e s m args below meth c s₁ B hml hv
  obtain ⟨hargs, hsz, hP, hK, hD0⟩ := hv
  have hx := B.exec
  have hb := B.bytes
  have hr := B.returns
  have hts := atoms_spec (ws := wX0_begin) B.pre
  have hown : s.vm.findClass RX0 = some m.cls := findClass_of_methodNamed B.named
  have hlocks := B.notSynchronized
  subst hsz
  have hD := hD0.self (sz := s.heap.size)
  generalize hAe : va_A (w_ly g cA n ub ++ w_ly g2 cA n uc) s.heap.size = A at hD ⊢
  have hA : ∀ q : Nat, s.heap.size ≤ q → A q := fun q h => by rw [← hAe]; exact Or.inr h
  have hS : va_S A s.heap s.heap [] := va_S.rf
  clear hAe hD0
  have J58 : ∀ (K : (Nat → Nat → Int32) → (Nat → Nat → Int32) → Int32 → Prop) (ub : Nat → Nat → Int32) (uc : Nat → Nat → Int32) (x2 : Int32) (x4 : Int32) (s0 : Int32) (s1 : Int32), wp_X0_begin_58 n K ub uc x2 x4 s0 s1 → (∀ (ub : Nat → Nat → Int32) (uc : Nat → Nat → Int32) (x4 : Int32), K ub uc x4 → ∀ (H : Heap) (locs : List Loc) (ls : Array Slot), va_P (dC, dI) vwCl (w_ly g cA n ub ++ w_ly g2 cA n uc) H → va_D A (w_ly g cA n ub ++ w_ly g2 cA n uc) → va_S A s.heap H locs → lv_has ls 5 [(0, .ref (g 0)), (1, .ref (g2 0)), (2, .int x2), (4, .int x4)] → W p l e (headSpec wX0_begin rm_X0_begin).room s m args below meth c H locs 0 0 (MQ below (va_Qv (fun (u : (Nat → Nat → Int32) × (Nat → Nat → Int32)) => P (u.1) (u.2)) (xB dC dI cA (fun u : (Nat → Nat → Int32) × (Nat → Nat → Int32) => w_ly g cA n (u.1) ++ w_ly g2 cA n (u.2)) A) A) args s 0 0 A) (F0 m 8 ls [])) → ∀ (H : Heap) (locs : List Loc) (ls : Array Slot), va_P (dC, dI) vwCl (w_ly g cA n ub ++ w_ly g2 cA n uc) H → va_D A (w_ly g cA n ub ++ w_ly g2 cA n uc) → va_S A s.heap H locs → lv_has ls 5 [(0, .ref (g 0)), (1, .ref (g2 0)), (2, .int x2), (4, .int x4)] → W p l e (headSpec wX0_begin rm_X0_begin).room s m args below meth c H locs 0 0 (MQ below (va_Qv (fun (u : (Nat → Nat → Int32) × (Nat → Nat → Int32)) => P (u.1) (u.2)) (xB dC dI cA (fun u : (Nat → Nat → Int32) × (Nat → Nat → Int32) => w_ly g cA n (u.1) ++ w_ly g2 cA n (u.2)) A) A) args s 0 0 A) (F0 m 58 ls [.int s0, .int s1, .ref (g 2)]) := by
    intro K ub uc x2 x4 s0 s1 hw hk H locs ls hP hD hS hl
    obtain ⟨ub5, e_ub5⟩ : ∃ z, z = st ub 2 s1.toNatClampNeg s0 := ⟨_, rfl⟩
    refine va_iast hx hb hK hP hD hS 2 0 rfl rfl (And.left hw) dX0_begin_58 (fun H locs hP hD hS => ?_)
    replace hw := And.right hw
    replace hw := hw ub5 e_ub5
    have hP : va_P (dC, dI) vwCl (w_ly g cA n ub5 ++ w_ly g2 cA n uc) H := by rw [e_ub5]; exact hP
    have hD : va_D A (w_ly g cA n ub5 ++ w_ly g2 cA n uc) := by rw [e_ub5]; exact hD
    refine lv_aload_n hx hb dX0_begin_59 rfl (lv_at hl 0 rfl) ?_
    refine va_get (D := (dC, dI)) (ci := 1) (v := .ref (g 3)) (C := RX0) (T := TX0) (N := 7) hx hb hts iX0 hown hK hP 0 rfl rfl 3 (by decide) (hts _ (xm m59)) (fun _ h9 => h9) rfl dX0_begin_60 ?_
    refine lv_iload hx hb dX0_begin_63 (lv_at hl 3 rfl) ?_
    refine lv_aload_n hx hb dX0_begin_65 rfl (lv_at hl 0 rfl) ?_
    refine va_get (D := (dC, dI)) (ci := 1) (v := .ref (g 1)) (C := RX0) (T := TX0) (N := 7) hx hb hts iX0 hown hK hP 0 rfl rfl 1 (by decide) (hts _ (xm m57)) (fun _ h9 => h9) rfl dX0_begin_66 ?_
    refine lv_iload hx hb dX0_begin_69 (lv_at hl 3 rfl) ?_
    refine va_iald hx hb hK hP 1 0 rfl rfl (And.left hw) dX0_begin_71 ?_
    replace hw := And.right hw
    obtain ⟨ub6, e_ub6⟩ : ∃ z, z = st ub5 3 x4.toNatClampNeg (ub5 1 x4.toNatClampNeg) := ⟨_, rfl⟩
    refine va_iast hx hb hK hP hD hS 3 0 rfl rfl (And.left hw) dX0_begin_72 (fun H locs hP hD hS => ?_)
    replace hw := And.right hw
    replace hw := hw ub6 e_ub6
    have hP : va_P (dC, dI) vwCl (w_ly g cA n ub6 ++ w_ly g2 cA n uc) H := by rw [e_ub6]; exact hP
    have hD : va_D A (w_ly g cA n ub6 ++ w_ly g2 cA n uc) := by rw [e_ub6]; exact hD
    refine lv_aload_n hx hb dX0_begin_73 rfl (lv_at hl 0 rfl) ?_
    refine va_get (D := (dC, dI)) (ci := 1) (v := .ref (g 4)) (C := RX0) (T := TX0) (N := 7) hx hb hts iX0 hown hK hP 0 rfl rfl 4 (by decide) (hts _ (xm m60)) (fun _ h9 => h9) rfl dX0_begin_74 ?_
    refine lv_iload hx hb dX0_begin_77 (lv_at hl 3 rfl) ?_
    refine lv_iconst (v := 0) hx hb dX0_begin_79 (by decide) ?_
    obtain ⟨ub7, e_ub7⟩ : ∃ z, z = st ub6 4 x4.toNatClampNeg 0 := ⟨_, rfl⟩
    refine va_iast hx hb hK hP hD hS 4 0 rfl rfl (And.left hw) dX0_begin_80 (fun H locs hP hD hS => ?_)
    replace hw := And.right hw
    replace hw := hw ub7 e_ub7
    have hP : va_P (dC, dI) vwCl (w_ly g cA n ub7 ++ w_ly g2 cA n uc) H := by rw [e_ub7]; exact hP
    have hD : va_D A (w_ly g cA n ub7 ++ w_ly g2 cA n uc) := by rw [e_ub7]; exact hD
    refine lv_aload_n hx hb dX0_begin_81 rfl (lv_at hl 0 rfl) ?_
    refine va_get (D := (dC, dI)) (ci := 1) (v := .ref (g 5)) (C := RX0) (T := TX0) (N := 7) hx hb hts iX0 hown hK hP 0 rfl rfl 5 (by decide) (hts _ (xm m61)) (fun _ h9 => h9) rfl dX0_begin_82 ?_
    refine lv_iload hx hb dX0_begin_85 (lv_at hl 3 rfl) ?_
    refine lv_iconst (v := 0) hx hb dX0_begin_87 (by decide) ?_
    obtain ⟨ub8, e_ub8⟩ : ∃ z, z = st ub7 5 x4.toNatClampNeg 0 := ⟨_, rfl⟩
    refine va_iast hx hb hK hP hD hS 5 0 rfl rfl (And.left hw) dX0_begin_88 (fun H locs hP hD hS => ?_)
    replace hw := And.right hw
    replace hw := hw ub8 e_ub8
    have hP : va_P (dC, dI) vwCl (w_ly g cA n ub8 ++ w_ly g2 cA n uc) H := by rw [e_ub8]; exact hP
    have hD : va_D A (w_ly g cA n ub8 ++ w_ly g2 cA n uc) := by rw [e_ub8]; exact hD
    obtain ⟨v9, e_v9⟩ : ∃ y : Int32, y = x4 + 1 := ⟨_, rfl⟩
    replace hw := hw v9 e_v9
    refine lv_iinc (v := v9) (lv' := [(4, .int v9), (0, .ref (g 0)), (1, .ref (g2 0)), (2, .int x2)]) hx hb dX0_begin_89 hl (k := 3) rfl (by rw [e_v9]; rfl) (by decide) rfl (fun ls hl => ?_)
    refine lv_goto (tgt := 8) hx hb dX0_begin_92 (by decide) ?_
    exact hk _ _ _ hw _ _ _ hP hD hS (lv_sub hl [1, 2, 3, 0] rfl)
  have J37 : ∀ (K : (Nat → Nat → Int32) → (Nat → Nat → Int32) → Int32 → Prop) (ub : Nat → Nat → Int32) (uc : Nat → Nat → Int32) (x2 : Int32) (x4 : Int32) (s0 : Int32) (s1 : Int32), wp_X0_begin_37 n K ub uc x2 x4 s0 s1 → (∀ (ub : Nat → Nat → Int32) (uc : Nat → Nat → Int32) (x4 : Int32), K ub uc x4 → ∀ (H : Heap) (locs : List Loc) (ls : Array Slot), va_P (dC, dI) vwCl (w_ly g cA n ub ++ w_ly g2 cA n uc) H → va_D A (w_ly g cA n ub ++ w_ly g2 cA n uc) → va_S A s.heap H locs → lv_has ls 5 [(0, .ref (g 0)), (1, .ref (g2 0)), (2, .int x2), (4, .int x4)] → W p l e (headSpec wX0_begin rm_X0_begin).room s m args below meth c H locs 0 0 (MQ below (va_Qv (fun (u : (Nat → Nat → Int32) × (Nat → Nat → Int32)) => P (u.1) (u.2)) (xB dC dI cA (fun u : (Nat → Nat → Int32) × (Nat → Nat → Int32) => w_ly g cA n (u.1) ++ w_ly g2 cA n (u.2)) A) A) args s 0 0 A) (F0 m 8 ls [])) → ∀ (H : Heap) (locs : List Loc) (ls : Array Slot), va_P (dC, dI) vwCl (w_ly g cA n ub ++ w_ly g2 cA n uc) H → va_D A (w_ly g cA n ub ++ w_ly g2 cA n uc) → va_S A s.heap H locs → lv_has ls 5 [(0, .ref (g 0)), (1, .ref (g2 0)), (2, .int x2), (4, .int x4)] → W p l e (headSpec wX0_begin rm_X0_begin).room s m args below meth c H locs 0 0 (MQ below (va_Qv (fun (u : (Nat → Nat → Int32) × (Nat → Nat → Int32)) => P (u.1) (u.2)) (xB dC dI cA (fun u : (Nat → Nat → Int32) × (Nat → Nat → Int32) => w_ly g cA n (u.1) ++ w_ly g2 cA n (u.2)) A) A) args s 0 0 A) (F0 m 37 ls [.int s0, .int s1, .ref (g 1)]) := by
    intro K ub uc x2 x4 s0 s1 hw hk H locs ls hP hD hS hl
    obtain ⟨ub3, e_ub3⟩ : ∃ z, z = st ub 1 s1.toNatClampNeg s0 := ⟨_, rfl⟩
    refine va_iast hx hb hK hP hD hS 1 0 rfl rfl (And.left hw) dX0_begin_37 (fun H locs hP hD hS => ?_)
    replace hw := And.right hw
    replace hw := hw ub3 e_ub3
    have hP : va_P (dC, dI) vwCl (w_ly g cA n ub3 ++ w_ly g2 cA n uc) H := by rw [e_ub3]; exact hP
    have hD : va_D A (w_ly g cA n ub3 ++ w_ly g2 cA n uc) := by rw [e_ub3]; exact hD
    refine lv_aload_n hx hb dX0_begin_38 rfl (lv_at hl 0 rfl) ?_
    refine va_get (D := (dC, dI)) (ci := 1) (v := .ref (g 2)) (C := RX0) (T := TX0) (N := 7) hx hb hts iX0 hown hK hP 0 rfl rfl 2 (by decide) (hts _ (xm m58)) (fun _ h9 => h9) rfl dX0_begin_39 ?_
    refine lv_iload hx hb dX0_begin_42 (lv_at hl 3 rfl) ?_
    refine lv_iload_n hx hb dX0_begin_44 rfl (lv_at hl 2 rfl) ?_
    refine lv_if_eq (tgt := 52) hx hb dX0_begin_45 (by decide) (fun c10 => ?_) (fun c10 => ?_)
    · replace hw := And.left hw c10
      refine lv_aload_n hx hb dX0_begin_52 rfl (lv_at hl 1 rfl) ?_
      refine lv_iload hx hb dX0_begin_53 (lv_at hl 3 rfl) ?_
      have hPc := hP.sub (ws' := (w_ly g2 cA n uc)) [6, 7, 8, 9, 10, 11] rfl
      refine vp_callSi (va_Run.run (va_runV (As := [.int x4]) (rest := [.int x4, .ref (g 2)]) ⟨hx, hb, hml, hown, hts⟩ (c_X0_wholeAlpha l dC dI cA g2 n uc x4 _ hw) (gcV 1 hts m254 m251 m252 m253 m23 rfl rfl (by decide +kernel) ⟨Nat.le_of_ble_eq_true rfl, Nat.le_of_ble_eq_true rfl⟩) ⟨xbl1, va_recv hK hPc (ci := 1) (q0 := 0) rfl rfl, fun U hU hW => ⟨rfl, by rw [hU]; exact hPc, va_K.moved hW.alike hK⟩⟩ rfl rfl hl.1 rfl (lv_room (Nat.le_of_ble_eq_true rfl)) dX0_begin_55 ⟨Nat.le_of_ble_eq_true rfl, Nat.le_of_ble_eq_true rfl⟩)) (fun r4 hw => ?_)
      exact J58 _ _ _ _ _ _ _ hw hk _ _ _ hP hD hS (lv_sub hl [0, 1, 2, 3] rfl)
    · replace hw := And.right hw c10
      refine lv_iconst (v := 0) hx hb dX0_begin_48 (by decide) ?_
      refine lv_goto (tgt := 58) hx hb dX0_begin_49 (by decide) ?_
      exact J58 _ _ _ _ _ _ _ hw hk _ _ _ hP hD hS (lv_sub hl [0, 1, 2, 3] rfl)
  have L8 : ∀ (KX : (Nat → Nat → Int32) → (Nat → Nat → Int32) → Prop) (x2 : Int32), (∀ (ub : Nat → Nat → Int32) (uc : Nat → Nat → Int32), KX ub uc → ∀ (H : Heap) (locs : List Loc) (ls : Array Slot), va_P (dC, dI) vwCl (w_ly g cA n ub ++ w_ly g2 cA n uc) H → va_D A (w_ly g cA n ub ++ w_ly g2 cA n uc) → va_S A s.heap H locs → lv_has ls 5 [] → W p l e (headSpec wX0_begin rm_X0_begin).room s m args below meth c H locs 0 0 (MQ below (va_Qv (fun (u : (Nat → Nat → Int32) × (Nat → Nat → Int32)) => P (u.1) (u.2)) (xB dC dI cA (fun u : (Nat → Nat → Int32) × (Nat → Nat → Int32) => w_ly g cA n (u.1) ++ w_ly g2 cA n (u.2)) A) A) args s 0 0 A) (F0 m 95 ls [])) → ∀ (N : Nat) (ub : Nat → Nat → Int32) (uc : Nat → Nat → Int32) (x4 : Int32), wp_X0_begin_8 n KX x2 N ub uc x4 → ∀ (H : Heap) (locs : List Loc) (ls : Array Slot), va_P (dC, dI) vwCl (w_ly g cA n ub ++ w_ly g2 cA n uc) H → va_D A (w_ly g cA n ub ++ w_ly g2 cA n uc) → va_S A s.heap H locs → lv_has ls 5 [(0, .ref (g 0)), (1, .ref (g2 0)), (2, .int x2), (4, .int x4)] → W p l e (headSpec wX0_begin rm_X0_begin).room s m args below meth c H locs 0 0 (MQ below (va_Qv (fun (u : (Nat → Nat → Int32) × (Nat → Nat → Int32)) => P (u.1) (u.2)) (xB dC dI cA (fun u : (Nat → Nat → Int32) × (Nat → Nat → Int32) => w_ly g cA n (u.1) ++ w_ly g2 cA n (u.2)) A) A) args s 0 0 A) (F0 m 8 ls []) := by
    intro KX x2 hx2 N8
    induction N8 with
    | zero =>
      intro ub uc x4 hw
      exact False.elim hw
    | succ N8 hk =>
      intro ub uc x4 hw H locs ls hP hD hS hl
      rw [wp_X0_begin_8] at hw
      refine lv_iload hx hb dX0_begin_8 (lv_at hl 3 rfl) ?_
      refine lv_aload_n hx hb dX0_begin_10 rfl (lv_at hl 0 rfl) ?_
      refine va_get (D := (dC, dI)) (ci := 1) (v := .int (ub 0 0)) (C := RX0) (T := TX0) (N := 7) hx hb hts iX0 hown hK hP 0 rfl rfl 0 (by decide) (hts _ (xm m56)) (fun _ h9 => h9) rfl dX0_begin_11 ?_
      refine lv_icmp_ge (tgt := 95) hx hb dX0_begin_14 (by decide) (fun c12 => ?_) (fun c12 => ?_)
      · replace hw := And.left hw c12
        exact hx2 _ _ hw _ _ _ hP hD hS (lv_sub hl [] rfl)
      · replace hw := And.right hw c12
        refine lv_aload_n hx hb dX0_begin_17 rfl (lv_at hl 0 rfl) ?_
        refine va_get (D := (dC, dI)) (ci := 1) (v := .ref (g 1)) (C := RX0) (T := TX0) (N := 7) hx hb hts iX0 hown hK hP 0 rfl rfl 1 (by decide) (hts _ (xm m57)) (fun _ h9 => h9) rfl dX0_begin_18 ?_
        refine lv_iload hx hb dX0_begin_21 (lv_at hl 3 rfl) ?_
        refine lv_iload_n hx hb dX0_begin_23 rfl (lv_at hl 2 rfl) ?_
        refine lv_if_eq (tgt := 31) hx hb dX0_begin_24 (by decide) (fun c11 => ?_) (fun c11 => ?_)
        · replace hw := And.left hw c11
          refine lv_aload_n hx hb dX0_begin_31 rfl (lv_at hl 1 rfl) ?_
          refine lv_iload hx hb dX0_begin_32 (lv_at hl 3 rfl) ?_
          have hPc := hP.sub (ws' := (w_ly g2 cA n uc)) [6, 7, 8, 9, 10, 11] rfl
          refine vp_callSi (va_Run.run (va_runV (As := [.int x4]) (rest := [.int x4, .ref (g 1)]) ⟨hx, hb, hml, hown, hts⟩ (c_X0_colourAt l dC dI cA g2 n uc x4 _ hw) (gcV 1 hts m250 m247 m248 m249 m23 rfl rfl (by decide +kernel) ⟨Nat.le_of_ble_eq_true rfl, Nat.le_of_ble_eq_true rfl⟩) ⟨xbl1, va_recv hK hPc (ci := 1) (q0 := 0) rfl rfl, fun U hU hW => ⟨rfl, by rw [hU]; exact hPc, va_K.moved hW.alike hK⟩⟩ rfl rfl hl.1 rfl (lv_room (Nat.le_of_ble_eq_true rfl)) dX0_begin_34 ⟨Nat.le_of_ble_eq_true rfl, Nat.le_of_ble_eq_true rfl⟩)) (fun r2 hw => ?_)
          exact J37 _ _ _ _ _ _ _ hw hk _ _ _ hP hD hS (lv_sub hl [0, 1, 2, 3] rfl)
        · replace hw := And.right hw c11
          refine lv_iconst (v := 0) hx hb dX0_begin_27 (by decide) ?_
          refine lv_goto (tgt := 37) hx hb dX0_begin_28 (by decide) ?_
          exact J37 _ _ _ _ _ _ _ hw hk _ _ _ hP hD hS (lv_sub hl [0, 1, 2, 3] rfl)
  have hl := lv_entry ([.ref (g 0), .ref (g2 0), .int p1, .int p2]) (n := 5) (Nat.le_of_ble_eq_true rfl)
  rw [show entryFrame m args 5 = entryFrame m (([.ref (g 0), .ref (g2 0), .int p1, .int p2] : List Value).toArray) 5 from by rw [hargs], lg_entry_eq]
  generalize (lg_sl ([.ref (g 0), .ref (g2 0), .int p1, .int p2]) ++ List.replicate (5 - (lg_sl ([.ref (g 0), .ref (g2 0), .int p1, .int p2])).length) Slot.unset).toArray = ls at hl ⊢
  have hl : lv_has ls 5 [(0, .ref (g 0)), (1, .ref (g2 0)), (2, .int p1), (3, .int p2)] := hl
  have hP : va_P (dC, dI) vwCl (w_ly g cA n ub ++ w_ly g2 cA n uc) s.heap := hP
  refine lv_aload_n hx hb dX0_begin_0 rfl (lv_at hl 0 rfl) ?_
  refine lv_iload_n hx hb dX0_begin_1 rfl (lv_at hl 3 rfl) ?_
  obtain ⟨ub1, e_ub1⟩ : ∃ z, z = st ub 0 1 p2 := ⟨_, rfl⟩
  refine va_put (D := (dC, dI)) (ci := 1) (v := .int p2) (ty := .boolean) (C := RX0) (T := TX0) (N := 7) hx hb hts iX0 tyX0 tyX0_ok nmX0 hown hK hP hD hS 0 rfl rfl 6 (by decide) (hts _ (xm m62)) (fun _ h9 => h9) rfl (by decide +kernel) (And.left (And.left hw)) (And.right (And.left hw)) (Nat.le_of_ble_eq_true rfl) dX0_begin_2 (fun H locs hP hD hS => ?_)
  replace hw := And.right hw
  replace hw := hw ub1 e_ub1
  have hP : va_P (dC, dI) vwCl (w_ly g cA n ub1 ++ w_ly g2 cA n uc) H := by rw [e_ub1]; exact hP
  have hD : va_D A (w_ly g cA n ub1 ++ w_ly g2 cA n uc) := by rw [e_ub1]; exact hD
  refine lv_iconst (v := 0) hx hb dX0_begin_5 (by decide) ?_
  refine lv_istore (lv' := [(4, .int 0), (0, .ref (g 0)), (1, .ref (g2 0)), (2, .int p1), (3, .int p2)]) hx hb dX0_begin_6 hl (by decide) rfl (fun ls hl => ?_)
  obtain ⟨N8, hw⟩ := hw
  refine L8 _ _ (fun ub13 uc14 hw H locs ls hP hD hS hl => ?_) N8 _ _ _ hw _ _ _ hP hD hS (lv_sub hl [1, 2, 3, 0] rfl)
  exact W.vret hx hb hr (fun t ht hW => ⟨⟨(ub13, uc14), rfl, hw, by rw [ht]; exact hP, va_K.moved hW.alike hK, hD⟩, hS.F ht⟩) hS.2.2 dX0_begin_95
