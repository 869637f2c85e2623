theorem m1 : Cond.selects RX3 yX3_hereIsFlat yX3_hereIsFlat ∈ gG := gG_mk (i := 1) (by decide +kernel) (by decide +kernel)
theorem m3 : Cond.selects RX3 yX3_needGroup yX3_needGroup ∈ gG := gG_mk (i := 3) (by decide +kernel) (by decide +kernel)
theorem m4 : Cond.selects RX3 yX3_leave yX3_leave ∈ gG := gG_mk (i := 4) (by decide +kernel) (by decide +kernel)
theorem m29 : Cond.initialized "java/lang/UnsupportedOperationException" ∈ gG := gG_mk (i := 29) (by decide +kernel) (by decide +kernel)
theorem m219 : Cond.classLink RX3 69 "java/lang/UnsupportedOperationException" ∈ gG := gG_mk (i := 219) (by decide +kernel) (by decide +kernel)
theorem m235 : Cond.methodLink RX3 74 yX3_hereIsFlat ∈ gG := gG_mk (i := 235) (by decide +kernel) (by decide +kernel)
theorem m237 : Cond.instanceMethod yX3_hereIsFlat ∈ gG := gG_mk (i := 237) (by decide +kernel) (by decide +kernel)
theorem m238 : Cond.code yX3_hereIsFlat cX3_hereIsFlat 1 (some .boolean) ∈ gG := gG_mk (i := 238) (by decide +kernel) (by decide +kernel)
theorem m243 : Cond.methodLink RX3 82 yX0_begin ∈ gG := gG_mk (i := 243) (by decide +kernel) (by decide +kernel)
theorem m244 : Cond.instanceMethod yX0_begin ∈ gG := gG_mk (i := 244) (by decide +kernel) (by decide +kernel)
theorem m245 : Cond.selects RX0 yX0_begin yX0_begin ∈ gG := gG_mk (i := 245) (by decide +kernel) (by decide +kernel)
theorem m246 : Cond.code yX0_begin cX0_begin 5 none ∈ gG := gG_mk (i := 246) (by decide +kernel) (by decide +kernel)
theorem m269 : Cond.methodLink RX3 86 yX3_needGroup ∈ gG := gG_mk (i := 269) (by decide +kernel) (by decide +kernel)
theorem m271 : Cond.instanceMethod yX3_needGroup ∈ gG := gG_mk (i := 271) (by decide +kernel) (by decide +kernel)
theorem m272 : Cond.code yX3_needGroup cX3_needGroup 1 none ∈ gG := gG_mk (i := 272) (by decide +kernel) (by decide +kernel)
theorem m297 : Cond.methodLink RX3 96 yX3_leave ∈ gG := gG_mk (i := 297) (by decide +kernel) (by decide +kernel)
theorem m299 : Cond.instanceMethod yX3_leave ∈ gG := gG_mk (i := 299) (by decide +kernel) (by decide +kernel)
theorem m300 : Cond.code yX3_leave cX3_leave 2 (some (.object "BlendRows$Layer")) ∈ gG := gG_mk (i := 300) (by decide +kernel) (by decide +kernel)
theorem m310 : Cond.methodLink RX3 111 yX0_result ∈ gG := gG_mk (i := 310) (by decide +kernel) (by decide +kernel)
theorem m404 : Cond.methodLink RX3 126 yX0_resultLum ∈ gG := gG_mk (i := 404) (by decide +kernel) (by decide +kernel)
theorem m405 : Cond.instanceMethod yX0_resultLum ∈ gG := gG_mk (i := 405) (by decide +kernel) (by decide +kernel)
theorem m406 : Cond.selects RX0 yX0_resultLum yX0_resultLum ∈ gG := gG_mk (i := 406) (by decide +kernel) (by decide +kernel)
theorem m407 : Cond.code yX0_resultLum cX0_resultLum 4 (some .int) ∈ gG := gG_mk (i := 407) (by decide +kernel) (by decide +kernel)
abbrev wX3_group : List Cond := Cond.code yX3_group cX3_group 4 (some .int) :: gG
def wp_X3_group_75 (n : Nat) (k : Nat) (k2 : Nat) (P : Int32 → (Nat → Nat → Int32) → (Nat → Nat → Int32) → (Nat → Nat → Int32) → Prop) (PX : String → Prop) (ua : Nat → Nat → Int32) (ub : Nat → Nat → Int32) (uc : Nat → Nat → Int32) : Prop :=
  ∀ ua2 : Nat → Nat → Int32, ua2 = st ua 0 7 ((ua 0 7) + 1) → P (ua2 0 7) ua2 ub uc
def wp_X3_group_42 (n : Nat) (k : Nat) (k2 : Nat) (P : Int32 → (Nat → Nat → Int32) → (Nat → Nat → Int32) → (Nat → Nat → Int32) → Prop) (PX : String → Prop) (ua : Nat → Nat → Int32) (ub : Nat → Nat → Int32) (uc : Nat → Nat → Int32) (x1 : Int32) (x2 : Int32) (s0 : Int32) : Prop :=
  ((¬ s0 = 0 → wp_X3_group_75 n k k2 P PX ua ub uc) ∧
  (s0 = 0 → (vp_in (ua 0 8) 6 ∧ (ua 0 8).toNatClampNeg = k ∧ wp_X3_here n k2 ua (wp_X0_begin n ub uc x1 x2 (fun (ub5 : Nat → Nat → Int32) (uc6 : Nat → Nat → Int32) => ∀ ua7 : Nat → Nat → Int32, ua7 = st ua 0 8 ((ua 0 8) + 1) → wp_X3_group_75 n k k2 P PX ua7 ub5 uc6)))))
def wp_X3_group_37 (n : Nat) (k : Nat) (k2 : Nat) (P : Int32 → (Nat → Nat → Int32) → (Nat → Nat → Int32) → (Nat → Nat → Int32) → Prop) (PX : String → Prop) (ua : Nat → Nat → Int32) (ub : Nat → Nat → Int32) (uc : Nat → Nat → Int32) (x1 : Int32) (x2 : Int32) : Prop :=
  wp_X3_group_42 n k k2 P PX ua ub uc x1 x2 1
def wp_X3_group (n : Nat) (k : Nat) (k2 : Nat) (ua : Nat → Nat → Int32) (ub : Nat → Nat → Int32) (uc : Nat → Nat → Int32) (p0 : Int32) (p1 : Int32) (P : Int32 → (Nat → Nat → Int32) → (Nat → Nat → Int32) → (Nat → Nat → Int32) → Prop) (PX : String → Prop) : Prop :=
  (((ua 0 7) < 40 → wp_X3_hereIsFlat n ua (fun r1 => ((¬ r1 = 0 → wp_X3_group_37 n k k2 P PX ua ub uc p0 p1) ∧
  (r1 = 0 → (((ua 0 7) < (ua 0 6) → wp_X3_group_42 n k k2 P PX ua ub uc p0 p1 0) ∧
  (¬ (ua 0 7) < (ua 0 6) → wp_X3_group_37 n k k2 P PX ua ub uc p0 p1)))))) ∧
  (¬ (ua 0 7) < 40 → PX "java/lang/UnsupportedOperationException"))
abbrev rm_X3_group : Room := { frames := 6, cells := 1, slots := 6, locals := 90 }
set_option maxHeartbeats 4000000 in
set_option maxRecDepth 100000 in
theorem c_X3_group (l : Launch) (hl0 : l.stackTraces = false) (dC : Nat → ClassId) (dI : Nat → Nat → Nat) (cA : Nat → ClassId) (sa : Nat → Nat) (ga : Nat → Nat) (gl : Nat → Nat → Nat) (n : Nat) (k : Nat) (k2 : Nat) (sz : Nat) (ua : Nat → Nat → Int32) (ub : Nat → Nat → Int32) (uc : Nat → Nat → Int32) (p0 : Int32) (p1 : Int32) (P : Int32 → (Nat → Nat → Int32) → (Nat → Nat → Int32) → (Nat → Nat → Int32) → Prop) (PX : String → Prop) (hw : wp_X3_group n k k2 ua ub uc p0 p1 P PX) : vx_Met l yX3_group wX3_group rm_X3_group (xP2t dC dI cA sa (w_br ga gl cA n ua ++ w_ly (gl k) cA n ub ++ w_ly (gl k2) cA n uc) sz [.ref (ga 0), .int p0, .int p1]) (va_Qi (fun r (u : (Nat → Nat → Int32) × (Nat → Nat → Int32) × (Nat → Nat → Int32)) => P r (u.1) (u.2.1) (u.2.2)) (xB dC dI cA (fun u : (Nat → Nat → Int32) × (Nat → Nat → Int32) × (Nat → Nat → Int32) => w_br ga gl cA n (u.1) ++ w_ly (gl k) cA n (u.2.1) ++ w_ly (gl k2) cA n (u.2.2)) (va_A (w_br ga gl cA n ua ++ w_ly (gl k) cA n ub ++ w_ly (gl k2) cA n uc) sz)) (va_A (w_br ga gl cA n ua ++ w_ly (gl k) cA n ub ++ w_ly (gl k2) cA n uc) sz)) (xX PX) 1 6 (va_A (w_br ga gl cA n ua ++ w_ly (gl k) cA n ub ++ w_ly (gl k2) cA n uc) sz) := by
  refine vx_ofW (cc := cX3_group) (maxL := 4) (ret := (some .int)) (by decide) rfl ?_
  intro p e s m args below meth c s₁ B hml hnoex hv
  obtain ⟨hargs, hsz, hP, hK, hD0, hE⟩ := hv
  have hx := B.exec
  have hb := B.bytes
  have hr := B.returns
  have hts := atoms_spec (ws := wX3_group) B.pre
  have hown : s.vm.findClass RX3 = some m.cls := findClass_of_methodNamed B.named
  have hlocks := B.notSynchronized
  subst hsz
  have hD := hD0.self (sz := s.heap.size)
  generalize hAe : va_A (w_br ga gl cA n ua ++ w_ly (gl k) cA n ub ++ w_ly (gl k2) cA n uc) s.heap.size = A at hD ⊢
  have hA : ∀ q : Nat, s.heap.size ≤ q → A q := fun q h => by rw [← hAe]; exact Or.inr h
  have hS : va_S (fun _ => False) s.heap s.heap [] := va_S.rf
  clear hAe hD0
  have J75 : ∀ (ua : Nat → Nat → Int32) (ub : Nat → Nat → Int32) (uc : Nat → Nat → Int32), wp_X3_group_75 n k k2 P PX ua ub uc → ∀ (H : Heap) (locs : List Loc) (ls : Array Slot), va_P (dC, dI) vwCl (w_br ga gl cA n ua ++ w_ly (gl k) cA n ub ++ w_ly (gl k2) cA n uc) H → va_D A (w_br ga gl cA n ua ++ w_ly (gl k) cA n ub ++ w_ly (gl k2) cA n uc) → va_S A s.heap H locs → lv_has ls 4 [(0, .ref (ga 0))] → W p l e (headSpec wX3_group rm_X3_group).room s m args below meth c H locs 0 0 (vx_MQ below (va_Qi (fun r (u : (Nat → Nat → Int32) × (Nat → Nat → Int32) × (Nat → Nat → Int32)) => P r (u.1) (u.2.1) (u.2.2)) (xB dC dI cA (fun u : (Nat → Nat → Int32) × (Nat → Nat → Int32) × (Nat → Nat → Int32) => w_br ga gl cA n (u.1) ++ w_ly (gl k) cA n (u.2.1) ++ w_ly (gl k2) cA n (u.2.2)) A) A) (xX PX) args s 1 6 A) (F0 m 75 ls []) := by
    intro  ua ub uc hw H locs ls hP hD hS hl
    refine lv_aload_n hx hb dX3_group_75 rfl (lv_at hl 0 rfl) ?_
    refine lv_dup hx hb dX3_group_76 rfl ?_
    refine va_get (D := (dC, dI)) (ci := 2) (v := .int (ua 0 7)) (C := RX3) (T := TX3) (N := 13) hx hb hts iX3 hown hK hP 0 rfl rfl 10 (by decide) (hts _ (xm m89)) (fun _ h9 => h9) rfl dX3_group_77 ?_
    refine lv_iconst (v := 1) hx hb dX3_group_80 (by decide) ?_
    refine lv_iadd hx hb dX3_group_81 ?_
    obtain ⟨ua2, e_ua2⟩ : ∃ z, z = st ua 0 7 ((ua 0 7) + 1) := ⟨_, rfl⟩
    refine va_put (D := (dC, dI)) (ci := 2) (v := .int ((ua 0 7) + 1)) (ty := .int) (C := RX3) (T := TX3) (N := 13) hx hb hts iX3 tyX3 tyX3_ok nmX3 hown hK hP hD hS 0 rfl rfl 10 (by decide) (hts _ (xm m89)) (fun _ h9 => h9) rfl (by decide +kernel) rfl rfl (Nat.le_of_ble_eq_true rfl) dX3_group_82 (fun H locs hP hD hS => ?_)
    replace hw := hw ua2 e_ua2
    have hP : va_P (dC, dI) vwCl (w_br ga gl cA n ua2 ++ w_ly (gl k) cA n ub ++ w_ly (gl k2) cA n uc) H := by rw [e_ua2]; exact hP
    have hD : va_D A (w_br ga gl cA n ua2 ++ w_ly (gl k) cA n ub ++ w_ly (gl k2) cA n uc) := by rw [e_ua2]; exact hD
    refine lv_aload_n hx hb dX3_group_85 rfl (lv_at hl 0 rfl) ?_
    refine va_get (D := (dC, dI)) (ci := 2) (v := .int (ua2 0 7)) (C := RX3) (T := TX3) (N := 13) hx hb hts iX3 hown hK hP 0 rfl rfl 10 (by decide) (hts _ (xm m89)) (fun _ h9 => h9) rfl dX3_group_86 ?_
    refine W.widen (k := 1) (n := 6) (by decide) (by decide) ?_
    refine vx_ret ?_
    exact W.iret hx hb hr (fun t ht hW => ⟨⟨_, (ua2, ub, uc), rfl, hw, by rw [ht]; exact hP, va_K.moved hW.alike hK, hD⟩, hS.F ht⟩) hS.2.2 dX3_group_89
  have J42 : ∀ (ua : Nat → Nat → Int32) (ub : Nat → Nat → Int32) (uc : Nat → Nat → Int32) (x1 : Int32) (x2 : Int32) (s0 : Int32), wp_X3_group_42 n k k2 P PX ua ub uc x1 x2 s0 → ∀ (H : Heap) (locs : List Loc) (ls : Array Slot), va_P (dC, dI) vwCl (w_br ga gl cA n ua ++ w_ly (gl k) cA n ub ++ w_ly (gl k2) cA n uc) H → va_D A (w_br ga gl cA n ua ++ w_ly (gl k) cA n ub ++ w_ly (gl k2) cA n uc) → va_S A s.heap H locs → lv_has ls 4 [(0, .ref (ga 0)), (1, .int x1), (2, .int x2)] → W p l e (headSpec wX3_group rm_X3_group).room s m args below meth c H locs 0 0 (vx_MQ below (va_Qi (fun r (u : (Nat → Nat → Int32) × (Nat → Nat → Int32) × (Nat → Nat → Int32)) => P r (u.1) (u.2.1) (u.2.2)) (xB dC dI cA (fun u : (Nat → Nat → Int32) × (Nat → Nat → Int32) × (Nat → Nat → Int32) => w_br ga gl cA n (u.1) ++ w_ly (gl k) cA n (u.2.1) ++ w_ly (gl k2) cA n (u.2.2)) A) A) (xX PX) args s 1 6 A) (F0 m 42 ls [.int s0]) := by
    intro  ua ub uc x1 x2 s0 hw H locs ls hP hD hS hl
    refine lv_istore_n (lv' := [(3, .int s0), (0, .ref (ga 0)), (1, .int x1), (2, .int x2)]) hx hb dX3_group_42 rfl hl (by decide) rfl (fun ls hl => ?_)
    refine lv_iload_n hx hb dX3_group_43 rfl (lv_at hl 0 rfl) ?_
    refine lv_if_ne (tgt := 75) hx hb dX3_group_44 (by decide) (fun c8 => ?_) (fun c8 => ?_)
    · replace hw := And.left hw c8
      exact J75 _ _ _ hw _ _ _ hP hD hS (lv_sub hl [1] rfl)
    · replace hw := And.right hw c8
      refine lv_aload_n hx hb dX3_group_47 rfl (lv_at hl 1 rfl) ?_
      refine va_get (D := (dC, dI)) (ci := 2) (v := .ref (ga 3)) (C := RX3) (T := TX3) (N := 13) hx hb hts iX3 hown hK hP 0 rfl rfl 5 (by decide) (hts _ (xm m84)) (fun _ h9 => h9) rfl dX3_group_48 ?_
      refine lv_aload_n hx hb dX3_group_51 rfl (lv_at hl 1 rfl) ?_
      refine va_get (D := (dC, dI)) (ci := 2) (v := .int (ua 0 8)) (C := RX3) (T := TX3) (N := 13) hx hb hts iX3 hown hK hP 0 rfl rfl 11 (by decide) (hts _ (xm m90)) (fun _ h9 => h9) rfl dX3_group_52 ?_
      refine va_aldq hx hb hK hP 3 2 rfl rfl (And.left hw) dX3_group_55 ?_
      replace hw := And.right hw
      refine xtopv (y := .ref (gl k 0)) (by show Value.ref (gl (ua 0 8).toNatClampNeg 0) = _; rw [And.left hw]) ?_
      replace hw := And.right hw
      refine lv_aload_n hx hb dX3_group_56 rfl (lv_at hl 1 rfl) ?_
      have hPc := hP.sub (ws' := (w_br ga gl cA n ua)) [0, 1, 2, 3] rfl
      refine xcallSr (va_Run.run (va_runV (As := []) (rest := [.ref (gl k 0)]) ⟨hx, hb, hml, hown, hts⟩ (c_X3_here l dC dI cA ga gl n k2 ua _ hw) (gcV 0 hts m242 m239 m241 m2 m21 rfl rfl (by decide +kernel) ⟨Nat.le_of_ble_eq_true rfl, Nat.le_of_ble_eq_true rfl⟩) ⟨xbl1, va_recv hK hPc (ci := 2) (q0 := 0) rfl rfl, fun U hU hW => ⟨rfl, by rw [hU]; exact hPc, va_K.moved hW.alike hK⟩⟩ rfl rfl hl.1 rfl (lv_room (Nat.le_of_ble_eq_true rfl)) dX3_group_57 ⟨Nat.le_of_ble_eq_true rfl, Nat.le_of_ble_eq_true rfl⟩)) (fun r3 hw => ?_)
      obtain ⟨e_r3, hw⟩ := hw
      subst e_r3
      refine lv_iload_n hx hb dX3_group_60 rfl (lv_at hl 2 rfl) ?_
      refine lv_iload_n hx hb dX3_group_61 rfl (lv_at hl 3 rfl) ?_
      have hPc := hP.sub (ws' := (w_ly (gl k) cA n ub ++ w_ly (gl k2) cA n uc)) [4, 5, 6, 7, 8, 9, 10, 11, 12, 13, 14, 15] rfl
      have hDc := hD.sub (ws' := (w_ly (gl k) cA n ub ++ w_ly (gl k2) cA n uc)) [4, 5, 6, 7, 8, 9, 10, 11, 12, 13, 14, 15] (by decide) rfl
      have hFc := va_free (wc := (w_ly (gl k) cA n ub ++ w_ly (gl k2) cA n uc)) hD hS hA [4, 5, 6, 7, 8, 9, 10, 11, 12, 13, 14, 15] rfl
      refine va_callv (va_runV (As := [.ref (gl k2 0), .int x1, .int x2]) (rest := []) ⟨hx, hb, hml, hown, hts⟩ (c_X0_begin l dC dI cA (gl k) (gl k2) n _ ub uc x1 x2 _ hw) (gcV 3 hts m246 m243 m244 m245 m23 rfl rfl (by decide +kernel) ⟨Nat.le_of_ble_eq_true rfl, Nat.le_of_ble_eq_true rfl⟩) ⟨xbl2, va_recv hK hPc (ci := 1) (q0 := 0) rfl rfl, fun U hU hW => ⟨rfl, by rw [hU], by rw [hU]; exact hPc, va_K.moved hW.alike hK, hDc.weaken (fun _ _ _ _ => trivial)⟩⟩ rfl rfl hl.1 rfl (lv_room (Nat.le_of_ble_eq_true rfl)) dX3_group_62 ⟨Nat.le_of_ble_eq_true rfl, Nat.le_of_ble_eq_true rfl⟩) hS (fun q _ h => hFc q h) hFc (fun u t H1 locs ht hvm hw hB hz1 hk1 hS => ?_)
      obtain ⟨ub5, uc6⟩ := u
      obtain ⟨hP1, hK1, hD1⟩ := hB
      rw [ht] at hP1
      have hJ := va_join (wr := (w_br ga gl cA n ua)) (w1 := (w_ly (gl k) cA n ub5 ++ w_ly (gl k2) cA n uc6)) hP hD [4, 5, 6, 7, 8, 9, 10, 11, 12, 13, 14, 15] [0, 1, 2, 3] rfl rfl (by decide) (by decide) hk1 hFc hP1 hD1
      have hP : va_P (dC, dI) vwCl (w_br ga gl cA n ua ++ w_ly (gl k) cA n ub5 ++ w_ly (gl k2) cA n uc6) H1 := hJ.1.sub [0, 1, 2, 3, 4, 5, 6, 7, 8, 9, 10, 11, 12, 13, 14, 15] rfl
      have hD : va_D A (w_br ga gl cA n ua ++ w_ly (gl k) cA n ub5 ++ w_ly (gl k2) cA n uc6) := hJ.2.sub [0, 1, 2, 3, 4, 5, 6, 7, 8, 9, 10, 11, 12, 13, 14, 15] (by decide) rfl
      clear hP1 hD1 hK1 hk1 hz1 hFc hDc hPc ht hJ
      generalize H1 = H at hP hS ⊢
      refine lv_aload_n hx hb dX3_group_65 rfl (lv_at hl 1 rfl) ?_
      refine lv_dup hx hb dX3_group_66 rfl ?_
      refine va_get (D := (dC, dI)) (ci := 2) (v := .int (ua 0 8)) (C := RX3) (T := TX3) (N := 13) hx hb hts iX3 hown hK hP 0 rfl rfl 11 (by decide) (hts _ (xm m90)) (fun _ h9 => h9) rfl dX3_group_67 ?_
      refine lv_iconst (v := 1) hx hb dX3_group_70 (by decide) ?_
      refine lv_iadd hx hb dX3_group_71 ?_
      obtain ⟨ua7, e_ua7⟩ : ∃ z, z = st ua 0 8 ((ua 0 8) + 1) := ⟨_, rfl⟩
      refine va_put (D := (dC, dI)) (ci := 2) (v := .int ((ua 0 8) + 1)) (ty := .int) (C := RX3) (T := TX3) (N := 13) hx hb hts iX3 tyX3 tyX3_ok nmX3 hown hK hP hD hS 0 rfl rfl 11 (by decide) (hts _ (xm m90)) (fun _ h9 => h9) rfl (by decide +kernel) rfl rfl (Nat.le_of_ble_eq_true rfl) dX3_group_72 (fun H locs hP hD hS => ?_)
      replace hw := hw ua7 e_ua7
      have hP : va_P (dC, dI) vwCl (w_br ga gl cA n ua7 ++ w_ly (gl k) cA n ub5 ++ w_ly (gl k2) cA n uc6) H := by rw [e_ua7]; exact hP
      have hD : va_D A (w_br ga gl cA n ua7 ++ w_ly (gl k) cA n ub5 ++ w_ly (gl k2) cA n uc6) := by rw [e_ua7]; exact hD
      exact J75 _ _ _ hw _ _ _ hP hD hS (lv_sub hl [1] rfl)
  have J37 : ∀ (ua : Nat → Nat → Int32) (ub : Nat → Nat → Int32) (uc : Nat → Nat → Int32) (x1 : Int32) (x2 : Int32), wp_X3_group_37 n k k2 P PX ua ub uc x1 x2 → ∀ (H : Heap) (locs : List Loc) (ls : Array Slot), va_P (dC, dI) vwCl (w_br ga gl cA n ua ++ w_ly (gl k) cA n ub ++ w_ly (gl k2) cA n uc) H → va_D A (w_br ga gl cA n ua ++ w_ly (gl k) cA n ub ++ w_ly (gl k2) cA n uc) → va_S A s.heap H locs → lv_has ls 4 [(0, .ref (ga 0)), (1, .int x1), (2, .int x2)] → W p l e (headSpec wX3_group rm_X3_group).room s m args below meth c H locs 0 0 (vx_MQ below (va_Qi (fun r (u : (Nat → Nat → Int32) × (Nat → Nat → Int32) × (Nat → Nat → Int32)) => P r (u.1) (u.2.1) (u.2.2)) (xB dC dI cA (fun u : (Nat → Nat → Int32) × (Nat → Nat → Int32) × (Nat → Nat → Int32) => w_br ga gl cA n (u.1) ++ w_ly (gl k) cA n (u.2.1) ++ w_ly (gl k2) cA n (u.2.2)) A) A) (xX PX) args s 1 6 A) (F0 m 37 ls []) := by
    intro  ua ub uc x1 x2 hw H locs ls hP hD hS hl
    refine lv_iconst (v := 1) hx hb dX3_group_37 (by decide) ?_
    refine lv_goto (tgt := 42) hx hb dX3_group_38 (by decide) ?_
    exact J42 _ _ _ _ _ _ hw _ _ _ hP hD hS (lv_sub hl [0, 1, 2] rfl)
  have hl := lv_entry ([.ref (ga 0), .int p0, .int p1]) (n := 4) (Nat.le_of_ble_eq_true rfl)
  rw [show entryFrame m args 4 = entryFrame m (([.ref (ga 0), .int p0, .int p1] : List Value).toArray) 4 from by rw [hargs], lg_entry_eq]
  generalize (lg_sl ([.ref (ga 0), .int p0, .int p1]) ++ List.replicate (4 - (lg_sl ([.ref (ga 0), .int p0, .int p1])).length) Slot.unset).toArray = ls at hl ⊢
  have hl : lv_has ls 4 [(0, .ref (ga 0)), (1, .int p0), (2, .int p1)] := hl
  have hP : va_P (dC, dI) vwCl (w_br ga gl cA n ua ++ w_ly (gl k) cA n ub ++ w_ly (gl k2) cA n uc) s.heap := hP
  refine lv_aload_n hx hb dX3_group_0 rfl (lv_at hl 0 rfl) ?_
  refine va_get (D := (dC, dI)) (ci := 2) (v := .int (ua 0 7)) (C := RX3) (T := TX3) (N := 13) hx hb hts iX3 hown hK hP 0 rfl rfl 10 (by decide) (hts _ (xm m89)) (fun _ h9 => h9) rfl dX3_group_1 ?_
  refine lv_bipush (v := 40) hx hb dX3_group_4 (by decide) ?_
  refine lv_icmp_lt (tgt := 19) hx hb dX3_group_6 (by decide) (fun c11 => ?_) (fun c11 => ?_)
  · replace hw := And.left hw c11
    refine lv_aload_n hx hb dX3_group_19 rfl (lv_at hl 0 rfl) ?_
    have hPc := hP.sub (ws' := (w_br ga gl cA n ua)) [0, 1, 2, 3] rfl
    refine vp_callSi (va_Run.run (va_runV (As := []) (rest := []) ⟨hx, hb, hml, hown, hts⟩ (c_X3_hereIsFlat l dC dI cA ga gl n ua _ hw) (gcV 0 hts m238 m235 m237 m1 m21 rfl rfl (by decide +kernel) ⟨Nat.le_of_ble_eq_true rfl, Nat.le_of_ble_eq_true rfl⟩) ⟨xbl1, va_recv hK hPc (ci := 2) (q0 := 0) rfl rfl, fun U hU hW => ⟨rfl, by rw [hU]; exact hPc, va_K.moved hW.alike hK⟩⟩ rfl rfl hl.1 rfl (lv_room (Nat.le_of_ble_eq_true rfl)) dX3_group_20 ⟨Nat.le_of_ble_eq_true rfl, Nat.le_of_ble_eq_true rfl⟩)) (fun r1 hw => ?_)
    refine lv_if_ne (tgt := 37) hx hb dX3_group_23 (by decide) (fun c10 => ?_) (fun c10 => ?_)
    · replace hw := And.left hw c10
      replace hS := xmono (A := A) hS
      exact J37 _ _ _ _ _ hw _ _ _ hP hD hS (lv_sub hl [0, 1, 2] rfl)
    · replace hw := And.right hw c10
      refine lv_aload_n hx hb dX3_group_26 rfl (lv_at hl 0 rfl) ?_
      refine va_get (D := (dC, dI)) (ci := 2) (v := .int (ua 0 7)) (C := RX3) (T := TX3) (N := 13) hx hb hts iX3 hown hK hP 0 rfl rfl 10 (by decide) (hts _ (xm m89)) (fun _ h9 => h9) rfl dX3_group_27 ?_
      refine lv_aload_n hx hb dX3_group_30 rfl (lv_at hl 0 rfl) ?_
      refine va_get (D := (dC, dI)) (ci := 2) (v := .int (ua 0 6)) (C := RX3) (T := TX3) (N := 13) hx hb hts iX3 hown hK hP 0 rfl rfl 9 (by decide) (hts _ (xm m88)) (fun _ h9 => h9) rfl dX3_group_31 ?_
      refine lv_icmp_lt (tgt := 41) hx hb dX3_group_34 (by decide) (fun c9 => ?_) (fun c9 => ?_)
      · replace hw := And.left hw c9
        refine lv_iconst (v := 0) hx hb dX3_group_41 (by decide) ?_
        replace hS := xmono (A := A) hS
        exact J42 _ _ _ _ _ _ hw _ _ _ hP hD hS (lv_sub hl [0, 1, 2] rfl)
      · replace hw := And.right hw c9
        replace hS := xmono (A := A) hS
        exact J37 _ _ _ _ _ hw _ _ _ hP hD hS (lv_sub hl [0, 1, 2] rfl)
  · replace hw := And.right hw c11
    exact vx_throwS hx hb hl0 (own := RX3) (cls := "java/lang/UnsupportedOperationException") (text := "no group goes deeper") (names := ["java/lang/RuntimeException", "java/lang/Exception"]) hown (by decide +kernel) (by decide +kernel) (hts _ (xm m219)) (hts _ (xm m29)) (hE.2.2.1 2 _ rfl) (xhat tw_UnsupportedOperationException_73 hts hE) tw_UnsupportedOperationException_73_g hE.1 hE.2.1 hS (hl.1.trans hml.symm) dX3_group_9 dX3_group_12 dX3_group_13 dX3_group_15 dX3_group_18 (fun x hx9 => (hnoex x hx9).elim) (Nat.le_of_ble_eq_true rfl) (Nat.le_of_ble_eq_true rfl) (Nat.le_of_ble_eq_true rfl) (Nat.le_of_ble_eq_true rfl) hlocks (fun t _ h1 h2 => ⟨_, hw, rfl, xF hS h1 h2⟩) (fun z hz => (hS.2.2 z hz).elim) (Nat.le_of_ble_eq_true rfl) (Nat.le_of_ble_eq_true rfl)
abbrev wX3_end : List Cond := Cond.code yX3_end cX3_end 7 (some .int) :: gG
def wp_X3_end_109 (n : Nat) (k : Nat) (k2 : Nat) (P : Int32 → (Nat → Nat → Int32) → (Nat → Nat → Int32) → (Nat → Nat → Int32) → Prop) (PX : String → Prop) (ua : Nat → Nat → Int32) (ub : Nat → Nat → Int32) (uc : Nat → Nat → Int32) : Prop :=
  ∀ ua2 : Nat → Nat → Int32, ua2 = st ua 0 7 ((ua 0 7) - 1) → P (ua2 0 7) ua2 ub uc
def wp_X3_end_29 (n : Nat) (k : Nat) (k2 : Nat) (KX : (Nat → Nat → Int32) → (Nat → Nat → Int32) → (Nat → Nat → Int32) → Prop) (x1 : Int32) (x2 : Int32) : Nat → (Nat → Nat → Int32) → (Nat → Nat → Int32) → (Nat → Nat → Int32) → Int32 → Prop
  | 0, _, _, _, _ => False
  | N29 + 1, ua, ub, uc, x4 =>
    (((ua 0 2) ≤ x4 → KX ua ub uc) ∧
  (¬ (ua 0 2) ≤ x4 → wp_X0_shapeAt n uc x4 (fun r5 => wp_X0_ownAlpha n uc x4 (fun r6 => wp_X2_mul r6 x2 (fun r7 => ∀ v8 : Int32, v8 = (if r5 < r7 then r5 else r7) → wp_X3_here n k ua (wp_X0_result n uc x4 (fun r10 => wp_X3_leftByMask n ua x4 v8 (fun r11 => wp_X0_put n ub x4 r10 r5 r11 x1 (ua 0 5) (fun (ub13 : Nat → Nat → Int32) => ∀ v14 : Int32, v14 = x4 + 1 → wp_X3_end_29 n k k2 KX x1 x2 N29 ua ub13 uc v14)))))))))
def wp_X3_end (n : Nat) (k : Nat) (k2 : Nat) (ua : Nat → Nat → Int32) (ub : Nat → Nat → Int32) (uc : Nat → Nat → Int32) (p0 : Int32) (p1 : Int32) (P : Int32 → (Nat → Nat → Int32) → (Nat → Nat → Int32) → (Nat → Nat → Int32) → Prop) (PX : String → Prop) : Prop :=
  wp_X3_needGroup n ua (wp_X3_needMode p0 15 (wp_X3_needByte p1 (wp_X3_hereIsFlat n ua (fun r1 => ((¬ r1 = 0 → wp_X3_end_109 n k k2 P PX ua ub uc) ∧
  (r1 = 0 → wp_X3_leave n k2 ua (fun (ua4 : Nat → Nat → Int32) => (∃ N29, wp_X3_end_29 n k k2 (fun (ua16 : Nat → Nat → Int32) (ub17 : Nat → Nat → Int32) (uc18 : Nat → Nat → Int32) => ∀ ua19 : Nat → Nat → Int32, ua19 = st ua16 0 9 ((ua16 0 9) + 1) → wp_X3_end_109 n k k2 P PX ua19 ub17 uc18) p0 p1 N29 ua4 ub uc 0)))))) PX) PX) PX
abbrev rm_X3_end : Room := { frames := 7, cells := 3, slots := 18, locals := 153 }
set_option maxHeartbeats 4000000 in
set_option maxRecDepth 100000 in
theorem c_X3_end (l : Launch) (hl0 : l.stackTraces = false) (dC : Nat → ClassId) (dI : Nat → Nat → Nat) (cA : Nat → ClassId) (sa : Nat → Nat) (ga : Nat → Nat) (gl : Nat → Nat → Nat) (n : Nat) (k : Nat) (k2 : Nat) (sz : Nat) (ua : Nat → Nat → Int32) (ub : Nat → Nat → Int32) (uc : Nat → Nat → Int32) (p0 : Int32) (p1 : Int32) (P : Int32 → (Nat → Nat → Int32) → (Nat → Nat → Int32) → (Nat → Nat → Int32) → Prop) (PX : String → Prop) (hw : wp_X3_end n k k2 ua ub uc p0 p1 P PX) : vx_Met l yX3_end wX3_end rm_X3_end (xP2t dC dI cA sa (w_br ga gl cA n ua ++ w_ly (gl k) cA n ub ++ w_ly (gl k2) cA n uc) sz [.ref (ga 0), .int p0, .int p1]) (va_Qi (fun r (u : (Nat → Nat → Int32) × (Nat → Nat → Int32) × (Nat → Nat → Int32)) => P r (u.1) (u.2.1) (u.2.2)) (xB dC dI cA (fun u : (Nat → Nat → Int32) × (Nat → Nat → Int32) × (Nat → Nat → Int32) => w_br ga gl cA n (u.1) ++ w_ly (gl k) cA n (u.2.1) ++ w_ly (gl k2) cA n (u.2.2)) (va_A (w_br ga gl cA n ua ++ w_ly (gl k) cA n ub ++ w_ly (gl k2) cA n uc) sz)) (va_A (w_br ga gl cA n ua ++ w_ly (gl k) cA n ub ++ w_ly (gl k2) cA n uc) sz)) (xX PX) 3 18 (va_A (w_br ga gl cA n ua ++ w_ly (gl k) cA n ub ++ w_ly (gl k2) cA n uc) sz) := by
  refine vx_ofW (cc := cX3_end) (maxL := 7) (ret := (some .int)) (by decide) rfl ?_
  intro p e s m args below meth c s₁ B hml hnoex hv
  obtain ⟨hargs, hsz, hP, hK, hD0, hE⟩ := hv
  have hx := B.exec
  have hb := B.bytes
  have hr := B.returns
  have hts := atoms_spec (ws := wX3_end) B.pre
  have hown : s.vm.findClass RX3 = some m.cls := findClass_of_methodNamed B.named
  have hlocks := B.notSynchronized
  subst hsz
  have hD := hD0.self (sz := s.heap.size)
  generalize hAe : va_A (w_br ga gl cA n ua ++ w_ly (gl k) cA n ub ++ w_ly (gl k2) cA n uc) s.heap.size = A at hD ⊢
  have hA : ∀ q : Nat, s.heap.size ≤ q → A q := fun q h => by rw [← hAe]; exact Or.inr h
  have hS : va_S (fun _ => False) s.heap s.heap [] := va_S.rf
  clear hAe hD0
  have J109 : ∀ (ua : Nat → Nat → Int32) (ub : Nat → Nat → Int32) (uc : Nat → Nat → Int32), wp_X3_end_109 n k k2 P PX ua ub uc → ∀ (H : Heap) (locs : List Loc) (ls : Array Slot), va_P (dC, dI) vwCl (w_br ga gl cA n ua ++ w_ly (gl k) cA n ub ++ w_ly (gl k2) cA n uc) H → va_D A (w_br ga gl cA n ua ++ w_ly (gl k) cA n ub ++ w_ly (gl k2) cA n uc) → va_S A s.heap H locs → lv_has ls 7 [(0, .ref (ga 0))] → W p l e (headSpec wX3_end rm_X3_end).room s m args below meth c H locs 3 18 (vx_MQ below (va_Qi (fun r (u : (Nat → Nat → Int32) × (Nat → Nat → Int32) × (Nat → Nat → Int32)) => P r (u.1) (u.2.1) (u.2.2)) (xB dC dI cA (fun u : (Nat → Nat → Int32) × (Nat → Nat → Int32) × (Nat → Nat → Int32) => w_br ga gl cA n (u.1) ++ w_ly (gl k) cA n (u.2.1) ++ w_ly (gl k2) cA n (u.2.2)) A) A) (xX PX) args s 3 18 A) (F0 m 109 ls []) := by
    intro  ua ub uc hw H locs ls hP hD hS hl
    refine lv_aload_n hx hb dX3_end_109 rfl (lv_at hl 0 rfl) ?_
    refine lv_dup hx hb dX3_end_110 rfl ?_
    refine va_get (D := (dC, dI)) (ci := 2) (v := .int (ua 0 7)) (C := RX3) (T := TX3) (N := 13) hx hb hts iX3 hown hK hP 0 rfl rfl 10 (by decide) (hts _ (xm m89)) (fun _ h9 => h9) rfl dX3_end_111 ?_
    refine lv_iconst (v := 1) hx hb dX3_end_114 (by decide) ?_
    refine lv_isub hx hb dX3_end_115 ?_
    obtain ⟨ua2, e_ua2⟩ : ∃ z, z = st ua 0 7 ((ua 0 7) - 1) := ⟨_, rfl⟩
    refine va_put (D := (dC, dI)) (ci := 2) (v := .int ((ua 0 7) - 1)) (ty := .int) (C := RX3) (T := TX3) (N := 13) hx hb hts iX3 tyX3 tyX3_ok nmX3 hown hK hP hD hS 0 rfl rfl 10 (by decide) (hts _ (xm m89)) (fun _ h9 => h9) rfl (by decide +kernel) rfl rfl (Nat.le_of_ble_eq_true rfl) dX3_end_116 (fun H locs hP hD hS => ?_)
    replace hw := hw ua2 e_ua2
    have hP : va_P (dC, dI) vwCl (w_br ga gl cA n ua2 ++ w_ly (gl k) cA n ub ++ w_ly (gl k2) cA n uc) H := by rw [e_ua2]; exact hP
    have hD : va_D A (w_br ga gl cA n ua2 ++ w_ly (gl k) cA n ub ++ w_ly (gl k2) cA n uc) := by rw [e_ua2]; exact hD
    refine lv_aload_n hx hb dX3_end_119 rfl (lv_at hl 0 rfl) ?_
    refine va_get (D := (dC, dI)) (ci := 2) (v := .int (ua2 0 7)) (C := RX3) (T := TX3) (N := 13) hx hb hts iX3 hown hK hP 0 rfl rfl 10 (by decide) (hts _ (xm m89)) (fun _ h9 => h9) rfl dX3_end_120 ?_
    refine vx_ret ?_
    exact W.iret hx hb hr (fun t ht hW => ⟨⟨_, (ua2, ub, uc), rfl, hw, by rw [ht]; exact hP, va_K.moved hW.alike hK, hD⟩, hS.F ht⟩) hS.2.2 dX3_end_123
  have L29 : ∀ (KX : (Nat → Nat → Int32) → (Nat → Nat → Int32) → (Nat → Nat → Int32) → Prop) (x1 : Int32) (x2 : Int32), (∀ (ua : Nat → Nat → Int32) (ub : Nat → Nat → Int32) (uc : Nat → Nat → Int32), KX ua ub uc → ∀ (H : Heap) (locs : List Loc) (ls : Array Slot), va_P (dC, dI) vwCl (w_br ga gl cA n ua ++ w_ly (gl k) cA n ub ++ w_ly (gl k2) cA n uc) H → va_D A (w_br ga gl cA n ua ++ w_ly (gl k) cA n ub ++ w_ly (gl k2) cA n uc) → va_S A s.heap H locs → lv_has ls 7 [(0, .ref (ga 0))] → W p l e (headSpec wX3_end rm_X3_end).room s m args below meth c H locs 3 18 (vx_MQ below (va_Qi (fun r (u : (Nat → Nat → Int32) × (Nat → Nat → Int32) × (Nat → Nat → Int32)) => P r (u.1) (u.2.1) (u.2.2)) (xB dC dI cA (fun u : (Nat → Nat → Int32) × (Nat → Nat → Int32) × (Nat → Nat → Int32) => w_br ga gl cA n (u.1) ++ w_ly (gl k) cA n (u.2.1) ++ w_ly (gl k2) cA n (u.2.2)) A) A) (xX PX) args s 3 18 A) (F0 m 99 ls [])) → ∀ (N : Nat) (ua : Nat → Nat → Int32) (ub : Nat → Nat → Int32) (uc : Nat → Nat → Int32) (x4 : Int32), wp_X3_end_29 n k k2 KX x1 x2 N ua ub uc x4 → ∀ (H : Heap) (locs : List Loc) (ls : Array Slot), va_P (dC, dI) vwCl (w_br ga gl cA n ua ++ w_ly (gl k) cA n ub ++ w_ly (gl k2) cA n uc) H → va_D A (w_br ga gl cA n ua ++ w_ly (gl k) cA n ub ++ w_ly (gl k2) cA n uc) → va_S A s.heap H locs → lv_has ls 7 [(0, .ref (ga 0)), (1, .int x1), (2, .int x2), (3, .ref (gl k2 0)), (4, .int x4)] → W p l e (headSpec wX3_end rm_X3_end).room s m args below meth c H locs 3 18 (vx_MQ below (va_Qi (fun r (u : (Nat → Nat → Int32) × (Nat → Nat → Int32) × (Nat → Nat → Int32)) => P r (u.1) (u.2.1) (u.2.2)) (xB dC dI cA (fun u : (Nat → Nat → Int32) × (Nat → Nat → Int32) × (Nat → Nat → Int32) => w_br ga gl cA n (u.1) ++ w_ly (gl k) cA n (u.2.1) ++ w_ly (gl k2) cA n (u.2.2)) A) A) (xX PX) args s 3 18 A) (F0 m 29 ls []) := by
    intro KX x1 x2 hx2 N29
    induction N29 with
    | zero =>
      intro ua ub uc x4 hw
      exact False.elim hw
    | succ N29 hk =>
      intro ua ub uc x4 hw H locs ls hP hD hS hl
      rw [wp_X3_end_29] at hw
      refine lv_iload hx hb dX3_end_29 (lv_at hl 4 rfl) ?_
      refine lv_aload_n hx hb dX3_end_31 rfl (lv_at hl 0 rfl) ?_
      refine va_get (D := (dC, dI)) (ci := 2) (v := .int (ua 0 2)) (C := RX3) (T := TX3) (N := 13) hx hb hts iX3 hown hK hP 0 rfl rfl 2 (by decide) (hts _ (xm m81)) (fun _ h9 => h9) rfl dX3_end_32 ?_
      refine lv_icmp_ge (tgt := 99) hx hb dX3_end_35 (by decide) (fun c15 => ?_) (fun c15 => ?_)
      · replace hw := And.left hw c15
        exact hx2 _ _ _ hw _ _ _ hP hD hS (lv_sub hl [0] rfl)
      · replace hw := And.right hw c15
        refine lv_aload_n hx hb dX3_end_38 rfl (lv_at hl 3 rfl) ?_
        refine lv_iload hx hb dX3_end_39 (lv_at hl 4 rfl) ?_
        have hPc := hP.sub (ws' := (w_ly (gl k2) cA n uc)) [10, 11, 12, 13, 14, 15] rfl
        refine vp_callSi (va_Run.run (va_runV (As := [.int x4]) (rest := []) ⟨hx, hb, hml, hown, hts⟩ (c_X0_shapeAt l dC dI cA (gl k2) n uc x4 _ hw) (gcV 1 hts m304 m301 m302 m303 m23 rfl rfl (by decide +kernel) ⟨Nat.le_of_ble_eq_true rfl, Nat.le_of_ble_eq_true rfl⟩) ⟨xbl1, va_recv hK hPc (ci := 1) (q0 := 0) rfl rfl, fun U hU hW => ⟨rfl, by rw [hU]; exact hPc, va_K.moved hW.alike hK⟩⟩ rfl rfl hl.1 rfl (lv_room (Nat.le_of_ble_eq_true rfl)) dX3_end_41 ⟨Nat.le_of_ble_eq_true rfl, Nat.le_of_ble_eq_true rfl⟩)) (fun r5 hw => ?_)
        refine lv_istore (lv' := [(5, .int r5), (0, .ref (ga 0)), (1, .int x1), (2, .int x2), (3, .ref (gl k2 0)), (4, .int x4)]) hx hb dX3_end_44 hl (by decide) rfl (fun ls hl => ?_)
        refine lv_aload_n hx hb dX3_end_46 rfl (lv_at hl 4 rfl) ?_
        refine lv_iload hx hb dX3_end_47 (lv_at hl 5 rfl) ?_
        have hPc := hP.sub (ws' := (w_ly (gl k2) cA n uc)) [10, 11, 12, 13, 14, 15] rfl
        refine vp_callSi (va_Run.run (va_runV (As := [.int x4]) (rest := []) ⟨hx, hb, hml, hown, hts⟩ (c_X0_ownAlpha l dC dI cA (gl k2) n uc x4 _ hw) (gcV 1 hts m308 m305 m306 m307 m23 rfl rfl (by decide +kernel) ⟨Nat.le_of_ble_eq_true rfl, Nat.le_of_ble_eq_true rfl⟩) ⟨xbl1, va_recv hK hPc (ci := 1) (q0 := 0) rfl rfl, fun U hU hW => ⟨rfl, by rw [hU]; exact hPc, va_K.moved hW.alike hK⟩⟩ rfl rfl hl.1 rfl (lv_room (Nat.le_of_ble_eq_true rfl)) dX3_end_49 ⟨Nat.le_of_ble_eq_true rfl, Nat.le_of_ble_eq_true rfl⟩)) (fun r6 hw => ?_)
        refine lv_iload_n hx hb dX3_end_52 rfl (lv_at hl 3 rfl) ?_
        refine vp_callSi (va_Run.run (va_runS (As := [.int r6, .int x2]) (rest := []) ⟨hx, hb, hml, hown, hts⟩ (c_X2_mul l r6 x2 _ hw) (gcS 2 hts m260 m309 m259 m30 rfl rfl (by decide +kernel) ⟨Nat.le_of_ble_eq_true rfl, Nat.le_of_ble_eq_true rfl⟩) ⟨xbl0, fun U hU hW => ⟨rfl, trivial⟩⟩ rfl rfl hl.1 rfl (lv_room (Nat.le_of_ble_eq_true rfl)) dX3_end_53 ⟨Nat.le_of_ble_eq_true rfl, Nat.le_of_ble_eq_true rfl⟩)) (fun r7 hw => ?_)
        refine lv_iload hx hb dX3_end_56 (lv_at hl 0 rfl) ?_
        refine va_mmin hx hb (hml.trans hl.1.symm) hown (hts _ (xm m43)) (hts _ (xm m44)) (hts _ (xm m22)) (hts _ (xm m45)) (Nat.le_of_ble_eq_true rfl) (Nat.le_of_ble_eq_true rfl) (Nat.le_of_ble_eq_true rfl) (Nat.le_of_ble_eq_true rfl) dX3_end_58 ?_
        refine lv_topi (fun v8 e_v8 => ?_)
        replace hw := hw v8 e_v8
        refine lv_istore (lv' := [(6, .int v8), (5, .int r5), (0, .ref (ga 0)), (1, .int x1), (2, .int x2), (3, .ref (gl k2 0)), (4, .int x4)]) hx hb dX3_end_61 hl (by decide) rfl (fun ls hl => ?_)
        refine lv_aload_n hx hb dX3_end_63 rfl (lv_at hl 2 rfl) ?_
        have hPc := hP.sub (ws' := (w_br ga gl cA n ua)) [0, 1, 2, 3] rfl
        refine xcallSr (va_Run.run (va_runV (As := []) (rest := []) ⟨hx, hb, hml, hown, hts⟩ (c_X3_here l dC dI cA ga gl n k ua _ hw) (gcV 0 hts m242 m239 m241 m2 m21 rfl rfl (by decide +kernel) ⟨Nat.le_of_ble_eq_true rfl, Nat.le_of_ble_eq_true rfl⟩) ⟨xbl1, va_recv hK hPc (ci := 2) (q0 := 0) rfl rfl, fun U hU hW => ⟨rfl, by rw [hU]; exact hPc, va_K.moved hW.alike hK⟩⟩ rfl rfl hl.1 rfl (lv_room (Nat.le_of_ble_eq_true rfl)) dX3_end_64 ⟨Nat.le_of_ble_eq_true rfl, Nat.le_of_ble_eq_true rfl⟩)) (fun r9 hw => ?_)
        obtain ⟨e_r9, hw⟩ := hw
        subst e_r9
        refine lv_iload hx hb dX3_end_67 (lv_at hl 6 rfl) ?_
        refine lv_aload_n hx hb dX3_end_69 rfl (lv_at hl 5 rfl) ?_
        refine lv_iload hx hb dX3_end_70 (lv_at hl 6 rfl) ?_
        have hPc := hP.sub (ws' := (w_ly (gl k2) cA n uc)) [10, 11, 12, 13, 14, 15] rfl
        refine vp_callSi (va_Run.run (va_runV (As := [.int x4]) (rest := [.int x4, .ref (gl k 0)]) ⟨hx, hb, hml, hown, hts⟩ (c_X0_result l dC dI cA (gl k2) n uc x4 _ hw) (gcV 1 hts m313 m310 m311 m312 m23 rfl rfl (by decide +kernel) ⟨Nat.le_of_ble_eq_true rfl, Nat.le_of_ble_eq_true rfl⟩) ⟨xbl1, va_recv hK hPc (ci := 1) (q0 := 0) rfl rfl, fun U hU hW => ⟨rfl, by rw [hU]; exact hPc, va_K.moved hW.alike hK⟩⟩ rfl rfl hl.1 rfl (lv_room (Nat.le_of_ble_eq_true rfl)) dX3_end_72 ⟨Nat.le_of_ble_eq_true rfl, Nat.le_of_ble_eq_true rfl⟩)) (fun r10 hw => ?_)
        refine lv_iload hx hb dX3_end_75 (lv_at hl 1 rfl) ?_
        refine lv_aload_n hx hb dX3_end_77 rfl (lv_at hl 2 rfl) ?_
        refine lv_iload hx hb dX3_end_78 (lv_at hl 6 rfl) ?_
        refine lv_iload hx hb dX3_end_80 (lv_at hl 0 rfl) ?_
        have hPc := hP.sub (ws' := (w_br ga gl cA n ua)) [0, 1, 2, 3] rfl
        refine vp_callSi (va_Run.run (va_runV (As := [.int x4, .int v8]) (rest := [.int r5, .int r10, .int x4, .ref (gl k 0)]) ⟨hx, hb, hml, hown, hts⟩ (c_X3_leftByMask l dC dI cA ga gl n ua x4 v8 _ hw) (gcV 2 hts m332 m329 m331 m6 m21 rfl rfl (by decide +kernel) ⟨Nat.le_of_ble_eq_true rfl, Nat.le_of_ble_eq_true rfl⟩) ⟨xbl1, va_recv hK hPc (ci := 2) (q0 := 0) rfl rfl, fun U hU hW => ⟨rfl, by rw [hU]; exact hPc, va_K.moved hW.alike hK⟩⟩ rfl rfl hl.1 rfl (lv_room (Nat.le_of_ble_eq_true rfl)) dX3_end_82 ⟨Nat.le_of_ble_eq_true rfl, Nat.le_of_ble_eq_true rfl⟩)) (fun r11 hw => ?_)
        refine lv_iload_n hx hb dX3_end_85 rfl (lv_at hl 3 rfl) ?_
        refine lv_aload_n hx hb dX3_end_86 rfl (lv_at hl 2 rfl) ?_
        refine va_get (D := (dC, dI)) (ci := 2) (v := .int (ua 0 5)) (C := RX3) (T := TX3) (N := 13) hx hb hts iX3 hown hK hP 0 rfl rfl 8 (by decide) (hts _ (xm m87)) (fun _ h9 => h9) rfl dX3_end_87 ?_
        have hPc := hP.sub (ws' := (w_ly (gl k) cA n ub)) [4, 5, 6, 7, 8, 9] rfl
        have hDc := hD.sub (ws' := (w_ly (gl k) cA n ub)) [4, 5, 6, 7, 8, 9] (by decide) rfl
        have hFc := va_free (wc := (w_ly (gl k) cA n ub)) hD hS hA [4, 5, 6, 7, 8, 9] rfl
        refine va_callv (va_runV (As := [.int x4, .int r10, .int r5, .int r11, .int x1, .int (ua 0 5)]) (rest := []) ⟨hx, hb, hml, hown, hts⟩ (c_X0_put l dC dI cA (gl k) n _ ub x4 r10 r5 r11 x1 (ua 0 5) _ hw) (gcV 6 hts m336 m333 m334 m335 m23 rfl rfl (by decide +kernel) ⟨Nat.le_of_ble_eq_true rfl, Nat.le_of_ble_eq_true rfl⟩) ⟨xbl2, va_recv hK hPc (ci := 1) (q0 := 0) rfl rfl, fun U hU hW => ⟨rfl, by rw [hU], by rw [hU]; exact hPc, va_K.moved hW.alike hK, hDc.weaken (fun _ _ _ _ => trivial)⟩⟩ rfl rfl hl.1 rfl (lv_room (Nat.le_of_ble_eq_true rfl)) dX3_end_90 ⟨Nat.le_of_ble_eq_true rfl, Nat.le_of_ble_eq_true rfl⟩) hS (fun q _ h => hFc q h) hFc (fun u t H1 locs ht hvm hw hB hz1 hk1 hS => ?_)
        obtain ⟨ub13, e_u⟩ : ∃ z, z = u := ⟨_, rfl⟩
        subst e_u
        obtain ⟨hP1, hK1, hD1⟩ := hB
        rw [ht] at hP1
        have hJ := va_join (wr := (w_br ga gl cA n ua ++ w_ly (gl k2) cA n uc)) (w1 := (w_ly (gl k) cA n ub13)) hP hD [4, 5, 6, 7, 8, 9] [0, 1, 2, 3, 10, 11, 12, 13, 14, 15] rfl rfl (by decide) (by decide) hk1 hFc hP1 hD1
        have hP : va_P (dC, dI) vwCl (w_br ga gl cA n ua ++ w_ly (gl k) cA n ub13 ++ w_ly (gl k2) cA n uc) H1 := hJ.1.sub [0, 1, 2, 3, 10, 11, 12, 13, 14, 15, 4, 5, 6, 7, 8, 9] rfl
        have hD : va_D A (w_br ga gl cA n ua ++ w_ly (gl k) cA n ub13 ++ w_ly (gl k2) cA n uc) := hJ.2.sub [0, 1, 2, 3, 10, 11, 12, 13, 14, 15, 4, 5, 6, 7, 8, 9] (by decide) rfl
        clear hP1 hD1 hK1 hk1 hz1 hFc hDc hPc ht hJ
        generalize H1 = H at hP hS ⊢
        obtain ⟨v14, e_v14⟩ : ∃ y : Int32, y = x4 + 1 := ⟨_, rfl⟩
        replace hw := hw v14 e_v14
        refine lv_iinc (v := v14) (lv' := [(4, .int v14), (6, .int v8), (5, .int r5), (0, .ref (ga 0)), (1, .int x1), (2, .int x2), (3, .ref (gl k2 0))]) hx hb dX3_end_93 hl (k := 6) rfl (by rw [e_v14]; rfl) (by decide) rfl (fun ls hl => ?_)
        refine lv_goto (tgt := 29) hx hb dX3_end_96 (by decide) ?_
        exact hk _ _ _ _ hw _ _ _ hP hD hS (lv_sub hl [3, 4, 5, 6, 0] rfl)
  have hl := lv_entry ([.ref (ga 0), .int p0, .int p1]) (n := 7) (Nat.le_of_ble_eq_true rfl)
  rw [show entryFrame m args 7 = entryFrame m (([.ref (ga 0), .int p0, .int p1] : List Value).toArray) 7 from by rw [hargs], lg_entry_eq]
  generalize (lg_sl ([.ref (ga 0), .int p0, .int p1]) ++ List.replicate (7 - (lg_sl ([.ref (ga 0), .int p0, .int p1])).length) Slot.unset).toArray = ls at hl ⊢
  have hl : lv_has ls 7 [(0, .ref (ga 0)), (1, .int p0), (2, .int p1)] := hl
  have hP : va_P (dC, dI) vwCl (w_br ga gl cA n ua ++ w_ly (gl k) cA n ub ++ w_ly (gl k2) cA n uc) s.heap := hP
  refine lv_aload_n hx hb dX3_end_0 rfl (lv_at hl 0 rfl) ?_
  have hPc := hP.sub (ws' := (w_br ga gl cA n ua)) [0, 1, 2, 3] rfl
  refine vx_callv (vx_runV (As := []) (rest := []) ⟨hx, hb, hml, hown, hts⟩ (c_X3_needGroup l hl0 dC dI cA sa ga gl n ua _ _ hw) (gcV 0 hts m272 m269 m271 m3 m21 rfl rfl (by decide +kernel) ⟨Nat.le_of_ble_eq_true rfl, Nat.le_of_ble_eq_true rfl⟩) ⟨xbl1t, va_recv hK hPc (ci := 2) (q0 := 0) rfl rfl, fun U hU hW => ⟨rfl, by rw [hU]; exact hPc, va_K.moved hW.alike hK, xEmv hE hW hS hU⟩⟩ rfl rfl hl.1 rfl (lv_room (Nat.le_of_ble_eq_true rfl)) dX3_end_1 ⟨Nat.le_of_ble_eq_true rfl, Nat.le_of_ble_eq_true rfl⟩) hS (fun q _ h => h.elim) (fun q h => h.elim) (fun q _ h => h.elim) (fun E ce q9 u t H1 locs1 ht hvm hpx hB hz1 hk1 hS1 hce hcv hcl => ?_) (fun u t H1 locs ht hvm hw hB hz1 hk1 hS => ?_)
  · subst hB
    exact vx_out (fun x hx9 => (hnoex x hx9).elim) hlocks hce hcv hcl (fun t ht2 hvm2 => ⟨_, hpx, rfl, hS1.F ht2⟩) (fun z hz => (hS1.2.2 z hz).elim) (Nat.le_of_ble_eq_true rfl) (Nat.le_of_ble_eq_true rfl)
  replace hP := xkeep hP hk1
  clear ht hB hz1 hk1 hPc
  generalize H1 = H at hP hS ⊢
  refine lv_iload_n hx hb dX3_end_4 rfl (lv_at hl 1 rfl) ?_
  refine lv_bipush (v := 15) hx hb dX3_end_5 (by decide) ?_
  refine vx_callv (vx_runS (As := [.int p0, .int 15]) (rest := []) ⟨hx, hb, hml, hown, hts⟩ (c_X3_needMode l hl0 sa p0 15 _ _ hw) (gcS 2 hts m291 m289 m290 m21 rfl rfl (by decide +kernel) ⟨Nat.le_of_ble_eq_true rfl, Nat.le_of_ble_eq_true rfl⟩) ⟨xbl0t, fun U hU hW => ⟨rfl, xEmv hE hW hS hU⟩⟩ rfl rfl hl.1 rfl (lv_room (Nat.le_of_ble_eq_true rfl)) dX3_end_7 ⟨Nat.le_of_ble_eq_true rfl, Nat.le_of_ble_eq_true rfl⟩) hS (fun q _ h => h.elim) (fun q h => h.elim) (fun q _ h => h.elim) (fun E ce q9 u t H1 locs1 ht hvm hpx hB hz1 hk1 hS1 hce hcv hcl => ?_) (fun u t H1 locs ht hvm hw hB hz1 hk1 hS => ?_)
  · subst hB
    exact vx_out (fun x hx9 => (hnoex x hx9).elim) hlocks hce hcv hcl (fun t ht2 hvm2 => ⟨_, hpx, rfl, hS1.F ht2⟩) (fun z hz => (hS1.2.2 z hz).elim) (Nat.le_of_ble_eq_true rfl) (Nat.le_of_ble_eq_true rfl)
  replace hP := xkeep hP hk1
  clear ht hB hz1 hk1
  generalize H1 = H at hP hS ⊢
  refine lv_iload_n hx hb dX3_end_10 rfl (lv_at hl 2 rfl) ?_
  refine vx_callv (vx_runS (As := [.int p1]) (rest := []) ⟨hx, hb, hml, hown, hts⟩ (c_X3_needByte l hl0 sa p1 _ _ hw) (gcS 1 hts m295 m293 m294 m21 rfl rfl (by decide +kernel) ⟨Nat.le_of_ble_eq_true rfl, Nat.le_of_ble_eq_true rfl⟩) ⟨xbl0t, fun U hU hW => ⟨rfl, xEmv hE hW hS hU⟩⟩ rfl rfl hl.1 rfl (lv_room (Nat.le_of_ble_eq_true rfl)) dX3_end_11 ⟨Nat.le_of_ble_eq_true rfl, Nat.le_of_ble_eq_true rfl⟩) hS (fun q _ h => h.elim) (fun q h => h.elim) (fun q _ h => h.elim) (fun E ce q9 u t H1 locs1 ht hvm hpx hB hz1 hk1 hS1 hce hcv hcl => ?_) (fun u t H1 locs ht hvm hw hB hz1 hk1 hS => ?_)
  · subst hB
    exact vx_out (fun x hx9 => (hnoex x hx9).elim) hlocks hce hcv hcl (fun t ht2 hvm2 => ⟨_, hpx, rfl, hS1.F ht2⟩) (fun z hz => (hS1.2.2 z hz).elim) (Nat.le_of_ble_eq_true rfl) (Nat.le_of_ble_eq_true rfl)
  replace hP := xkeep hP hk1
  clear ht hB hz1 hk1
  generalize H1 = H at hP hS ⊢
  refine lv_aload_n hx hb dX3_end_14 rfl (lv_at hl 0 rfl) ?_
  have hPc := hP.sub (ws' := (w_br ga gl cA n ua)) [0, 1, 2, 3] rfl
  refine vp_callSi (va_Run.run (va_runV (As := []) (rest := []) ⟨hx, hb, hml, hown, hts⟩ (c_X3_hereIsFlat l dC dI cA ga gl n ua _ hw) (gcV 0 hts m238 m235 m237 m1 m21 rfl rfl (by decide +kernel) ⟨Nat.le_of_ble_eq_true rfl, Nat.le_of_ble_eq_true rfl⟩) ⟨xbl1, va_recv hK hPc (ci := 2) (q0 := 0) rfl rfl, fun U hU hW => ⟨rfl, by rw [hU]; exact hPc, va_K.moved hW.alike hK⟩⟩ rfl rfl hl.1 rfl (lv_room (Nat.le_of_ble_eq_true rfl)) dX3_end_15 ⟨Nat.le_of_ble_eq_true rfl, Nat.le_of_ble_eq_true rfl⟩)) (fun r1 hw => ?_)
  refine lv_if_ne (tgt := 109) hx hb dX3_end_18 (by decide) (fun c20 => ?_) (fun c20 => ?_)
  · replace hw := And.left hw c20
    replace hS := xmono (A := A) hS
    exact J109 _ _ _ hw _ _ _ hP hD hS (lv_sub hl [0] rfl)
  · replace hw := And.right hw c20
    refine lv_aload_n hx hb dX3_end_21 rfl (lv_at hl 0 rfl) ?_
    have hPc := hP.sub (ws' := (w_br ga gl cA n ua)) [0, 1, 2, 3] rfl
    replace hS := xmono (A := A) hS
    have hDc := hD.sub (ws' := (w_br ga gl cA n ua)) [0, 1, 2, 3] (by decide) rfl
    have hFc := va_free (wc := (w_br ga gl cA n ua)) hD hS hA [0, 1, 2, 3] rfl
    refine va_callr (va_runV (As := []) (rest := []) ⟨hx, hb, hml, hown, hts⟩ (c_X3_leave l dC dI cA ga gl n k2 _ ua _ hw) (gcV 0 hts m300 m297 m299 m4 m21 rfl rfl (by decide +kernel) ⟨Nat.le_of_ble_eq_true rfl, Nat.le_of_ble_eq_true rfl⟩) ⟨xbl2, va_recv hK hPc (ci := 2) (q0 := 0) rfl rfl, fun U hU hW => ⟨rfl, by rw [hU], by rw [hU]; exact hPc, va_K.moved hW.alike hK, hDc.weaken (fun _ _ _ _ => trivial)⟩⟩ rfl rfl hl.1 rfl (lv_room (Nat.le_of_ble_eq_true rfl)) dX3_end_22 ⟨Nat.le_of_ble_eq_true rfl, Nat.le_of_ble_eq_true rfl⟩) hS (fun q _ h => hFc q h) hFc (fun u r3 t H1 locs ht hvm hw hB hz1 hk1 hS => ?_)
    obtain ⟨e_r3, hB⟩ := hB
    subst e_r3
    obtain ⟨ua4, e_u⟩ : ∃ z, z = u := ⟨_, rfl⟩
    subst e_u
    obtain ⟨hP1, hK1, hD1⟩ := hB
    rw [ht] at hP1
    have hJ := va_join (wr := (w_ly (gl k) cA n ub ++ w_ly (gl k2) cA n uc)) (w1 := (w_br ga gl cA n ua4)) hP hD [0, 1, 2, 3] [4, 5, 6, 7, 8, 9, 10, 11, 12, 13, 14, 15] rfl rfl (by decide) (by decide) hk1 hFc hP1 hD1
    have hP : va_P (dC, dI) vwCl (w_br ga gl cA n ua4 ++ w_ly (gl k) cA n ub ++ w_ly (gl k2) cA n uc) H1 := hJ.1.sub [12, 13, 14, 15, 0, 1, 2, 3, 4, 5, 6, 7, 8, 9, 10, 11] rfl
    have hD : va_D A (w_br ga gl cA n ua4 ++ w_ly (gl k) cA n ub ++ w_ly (gl k2) cA n uc) := hJ.2.sub [12, 13, 14, 15, 0, 1, 2, 3, 4, 5, 6, 7, 8, 9, 10, 11] (by decide) rfl
    clear hP1 hD1 hK1 hk1 hz1 hFc hDc hPc ht hJ
    generalize H1 = H at hP hS ⊢
    refine lv_astore_n (lv' := [(3, .ref (gl k2 0)), (0, .ref (ga 0)), (1, .int p0), (2, .int p1)]) hx hb dX3_end_25 rfl hl (by decide) rfl (fun ls hl => ?_)
    refine lv_iconst (v := 0) hx hb dX3_end_26 (by decide) ?_
    refine lv_istore (lv' := [(4, .int 0), (3, .ref (gl k2 0)), (0, .ref (ga 0)), (1, .int p0), (2, .int p1)]) hx hb dX3_end_27 hl (by decide) rfl (fun ls hl => ?_)
    obtain ⟨N29, hw⟩ := hw
    refine L29 _ _ _ (fun ua16 ub17 uc18 hw H locs ls hP hD hS hl => ?_) N29 _ _ _ _ hw _ _ _ hP hD hS (lv_sub hl [2, 3, 4, 1, 0] rfl)
    refine lv_aload_n hx hb dX3_end_99 rfl (lv_at hl 0 rfl) ?_
    refine lv_dup hx hb dX3_end_100 rfl ?_
    refine va_get (D := (dC, dI)) (ci := 2) (v := .int (ua16 0 9)) (C := RX3) (T := TX3) (N := 13) hx hb hts iX3 hown hK hP 0 rfl rfl 12 (by decide) (hts _ (xm m91)) (fun _ h9 => h9) rfl dX3_end_101 ?_
    refine lv_iconst (v := 1) hx hb dX3_end_104 (by decide) ?_
    refine lv_iadd hx hb dX3_end_105 ?_
    obtain ⟨ua19, e_ua19⟩ : ∃ z, z = st ua16 0 9 ((ua16 0 9) + 1) := ⟨_, rfl⟩
    refine va_put (D := (dC, dI)) (ci := 2) (v := .int ((ua16 0 9) + 1)) (ty := .int) (C := RX3) (T := TX3) (N := 13) hx hb hts iX3 tyX3 tyX3_ok nmX3 hown hK hP hD hS 0 rfl rfl 12 (by decide) (hts _ (xm m91)) (fun _ h9 => h9) rfl (by decide +kernel) rfl rfl (Nat.le_of_ble_eq_true rfl) dX3_end_106 (fun H locs hP hD hS => ?_)
    replace hw := hw ua19 e_ua19
    have hP : va_P (dC, dI) vwCl (w_br ga gl cA n ua19 ++ w_ly (gl k) cA n ub17 ++ w_ly (gl k2) cA n uc18) H := by rw [e_ua19]; exact hP
    have hD : va_D A (w_br ga gl cA n ua19 ++ w_ly (gl k) cA n ub17 ++ w_ly (gl k2) cA n uc18) := by rw [e_ua19]; exact hD
    exact J109 _ _ _ hw _ _ _ hP hD hS (lv_sub hl [0] rfl)
abbrev wX3_mask : List Cond := Cond.code yX3_mask cX3_mask 6 (some .int) :: gG
def wp_X3_mask_103 (n : Nat) (k2 : Nat) (P : Int32 → (Nat → Nat → Int32) → (Nat → Nat → Int32) → Prop) (PX : String → Prop) (ua : Nat → Nat → Int32) (uc : Nat → Nat → Int32) : Prop :=
  ∀ ua2 : Nat → Nat → Int32, ua2 = st ua 0 7 ((ua 0 7) - 1) → P (ua2 0 7) ua2 uc
def wp_X3_mask_91 (n : Nat) (k2 : Nat) (K : (Nat → Nat → Int32) → (Nat → Nat → Int32) → Int32 → Prop) (ua : Nat → Nat → Int32) (uc : Nat → Nat → Int32) (x1 : Int32) (x2 : Int32) (x4 : Int32) (s0 : Int32) (s1 : Int32) : Prop :=
  (vp_in s1 n ∧ ∀ ua6 : Nat → Nat → Int32, ua6 = st ua 2 s1.toNatClampNeg s0 → ∀ v7 : Int32, v7 = x4 + 1 → K ua6 uc v7)
def wp_X3_mask_68 (n : Nat) (k2 : Nat) (K : (Nat → Nat → Int32) → (Nat → Nat → Int32) → Int32 → Prop) (ua : Nat → Nat → Int32) (uc : Nat → Nat → Int32) (x1 : Int32) (x2 : Int32) (x4 : Int32) (s0 : Int32) : Prop :=
  ((x2 = 0 → wp_X3_mask_91 n k2 K ua uc x1 x2 x4 s0 x4) ∧
  (¬ x2 = 0 → wp_X3_mask_91 n k2 K ua uc x1 x2 x4 (255 - s0) x4))
def wp_X3_mask_39 (n : Nat) (k2 : Nat) (KX : (Nat → Nat → Int32) → (Nat → Nat → Int32) → Prop) (x1 : Int32) (x2 : Int32) : Nat → (Nat → Nat → Int32) → (Nat → Nat → Int32) → Int32 → Prop
  | 0, _, _, _ => False
  | N39 + 1, ua, uc, x4 =>
    (((ua 0 2) ≤ x4 → KX ua uc) ∧
  (¬ (ua 0 2) ≤ x4 → ((¬ x1 = 1 → wp_X0_resultLum n uc x4 (fun r5 => wp_X3_mask_68 n k2 (wp_X3_mask_39 n k2 KX x1 x2 N39) ua uc x1 x2 x4 r5)) ∧
  (x1 = 1 → wp_X0_ownAlpha n uc x4 (fun r9 => wp_X3_mask_68 n k2 (wp_X3_mask_39 n k2 KX x1 x2 N39) ua uc x1 x2 x4 r9)))))
def wp_X3_mask_24 (n : Nat) (k2 : Nat) (P : Int32 → (Nat → Nat → Int32) → (Nat → Nat → Int32) → Prop) (PX : String → Prop) (ua : Nat → Nat → Int32) (uc : Nat → Nat → Int32) (x1 : Int32) (x2 : Int32) : Prop :=
  wp_X3_hereIsFlat n ua (fun r1 => ((¬ r1 = 0 → wp_X3_mask_103 n k2 P PX ua uc) ∧
  (r1 = 0 → wp_X3_leave n k2 ua (fun (ua4 : Nat → Nat → Int32) => (∃ N39, wp_X3_mask_39 n k2 (fun (ua12 : Nat → Nat → Int32) (uc13 : Nat → Nat → Int32) => ∀ ua14 : Nat → Nat → Int32, ua14 = st ua12 0 3 1 → wp_X3_mask_103 n k2 P PX ua14 uc13) x1 x2 N39 ua4 uc 0)))))
def wp_X3_mask (n : Nat) (k2 : Nat) (ua : Nat → Nat → Int32) (uc : Nat → Nat → Int32) (p0 : Int32) (p1 : Int32) (P : Int32 → (Nat → Nat → Int32) → (Nat → Nat → Int32) → Prop) (PX : String → Prop) : Prop :=
  wp_X3_needGroup n ua (((p0 = 1 → wp_X3_mask_24 n k2 P PX ua uc p0 p1) ∧
  (¬ p0 = 1 → ((p0 = 2 → wp_X3_mask_24 n k2 P PX ua uc p0 p1) ∧
  (¬ p0 = 2 → PX "java/lang/IllegalArgumentException"))))) PX
abbrev rm_X3_mask : Room := { frames := 7, cells := 2, slots := 12, locals := 110 }
set_option maxHeartbeats 4000000 in
set_option maxRecDepth 100000 in
theorem c_X3_mask (l : Launch) (hl0 : l.stackTraces = false) (dC : Nat → ClassId) (dI : Nat → Nat → Nat) (cA : Nat → ClassId) (sa : Nat → Nat) (ga : Nat → Nat) (gl : Nat → Nat → Nat) (n : Nat) (k2 : Nat) (sz : Nat) (ua : Nat → Nat → Int32) (uc : Nat → Nat → Int32) (p0 : Int32) (p1 : Int32) (P : Int32 → (Nat → Nat → Int32) → (Nat → Nat → Int32) → Prop) (PX : String → Prop) (hw : wp_X3_mask n k2 ua uc p0 p1 P PX) : vx_Met l yX3_mask wX3_mask rm_X3_mask (xP2t dC dI cA sa (w_br ga gl cA n ua ++ w_ly (gl k2) cA n uc) sz [.ref (ga 0), .int p0, .int p1]) (va_Qi (fun r (u : (Nat → Nat → Int32) × (Nat → Nat → Int32)) => P r (u.1) (u.2)) (xB dC dI cA (fun u : (Nat → Nat → Int32) × (Nat → Nat → Int32) => w_br ga gl cA n (u.1) ++ w_ly (gl k2) cA n (u.2)) (va_A (w_br ga gl cA n ua ++ w_ly (gl k2) cA n uc) sz)) (va_A (w_br ga gl cA n ua ++ w_ly (gl k2) cA n uc) sz)) (xX PX) 2 12 (va_A (w_br ga gl cA n ua ++ w_ly (gl k2) cA n uc) sz) := by
  refine vx_ofW (cc := cX3_mask) (maxL := 6) (ret := (some .int)) (by decide) rfl ?_
  intro p e s m args below meth c s₁ B hml hnoex hv
  obtain ⟨hargs, hsz, hP, hK, hD0, hE⟩ := hv
  have hx := B.exec
  have hb := B.bytes
  have hr := B.returns
  have hts := atoms_spec (ws := wX3_mask) B.pre
  have hown : s.vm.findClass RX3 = some m.cls := findClass_of_methodNamed B.named
  have hlocks := B.notSynchronized
  subst hsz
  have hD := hD0.self (sz := s.heap.size)
  generalize hAe : va_A (w_br ga gl cA n ua ++ w_ly (gl k2) cA n uc) s.heap.size = A at hD ⊢
  have hA : ∀ q : Nat, s.heap.size ≤ q → A q := fun q h => by rw [← hAe]; exact Or.inr h
  have hS : va_S (fun _ => False) s.heap s.heap [] := va_S.rf
  clear hAe hD0
  have J103 : ∀ (ua : Nat → Nat → Int32) (uc : Nat → Nat → Int32), wp_X3_mask_103 n k2 P PX ua uc → ∀ (H : Heap) (locs : List Loc) (ls : Array Slot), va_P (dC, dI) vwCl (w_br ga gl cA n ua ++ w_ly (gl k2) cA n uc) H → va_D A (w_br ga gl cA n ua ++ w_ly (gl k2) cA n uc) → va_S A s.heap H locs → lv_has ls 6 [(0, .ref (ga 0))] → W p l e (headSpec wX3_mask rm_X3_mask).room s m args below meth c H locs 1 6 (vx_MQ below (va_Qi (fun r (u : (Nat → Nat → Int32) × (Nat → Nat → Int32)) => P r (u.1) (u.2)) (xB dC dI cA (fun u : (Nat → Nat → Int32) × (Nat → Nat → Int32) => w_br ga gl cA n (u.1) ++ w_ly (gl k2) cA n (u.2)) A) A) (xX PX) args s 2 12 A) (F0 m 103 ls []) := by
    intro  ua uc hw H locs ls hP hD hS hl
    refine lv_aload_n hx hb dX3_mask_103 rfl (lv_at hl 0 rfl) ?_
    refine lv_dup hx hb dX3_mask_104 rfl ?_
    refine va_get (D := (dC, dI)) (ci := 2) (v := .int (ua 0 7)) (C := RX3) (T := TX3) (N := 13) hx hb hts iX3 hown hK hP 0 rfl rfl 10 (by decide) (hts _ (xm m89)) (fun _ h9 => h9) rfl dX3_mask_105 ?_
    refine lv_iconst (v := 1) hx hb dX3_mask_108 (by decide) ?_
    refine lv_isub hx hb dX3_mask_109 ?_
    obtain ⟨ua2, e_ua2⟩ : ∃ z, z = st ua 0 7 ((ua 0 7) - 1) := ⟨_, rfl⟩
    refine va_put (D := (dC, dI)) (ci := 2) (v := .int ((ua 0 7) - 1)) (ty := .int) (C := RX3) (T := TX3) (N := 13) hx hb hts iX3 tyX3 tyX3_ok nmX3 hown hK hP hD hS 0 rfl rfl 10 (by decide) (hts _ (xm m89)) (fun _ h9 => h9) rfl (by decide +kernel) rfl rfl (Nat.le_of_ble_eq_true rfl) dX3_mask_110 (fun H locs hP hD hS => ?_)
    replace hw := hw ua2 e_ua2
    have hP : va_P (dC, dI) vwCl (w_br ga gl cA n ua2 ++ w_ly (gl k2) cA n uc) H := by rw [e_ua2]; exact hP
    have hD : va_D A (w_br ga gl cA n ua2 ++ w_ly (gl k2) cA n uc) := by rw [e_ua2]; exact hD
    refine lv_aload_n hx hb dX3_mask_113 rfl (lv_at hl 0 rfl) ?_
    refine va_get (D := (dC, dI)) (ci := 2) (v := .int (ua2 0 7)) (C := RX3) (T := TX3) (N := 13) hx hb hts iX3 hown hK hP 0 rfl rfl 10 (by decide) (hts _ (xm m89)) (fun _ h9 => h9) rfl dX3_mask_114 ?_
    refine W.widen (k := 2) (n := 12) (by decide) (by decide) ?_
    refine vx_ret ?_
    exact W.iret hx hb hr (fun t ht hW => ⟨⟨_, (ua2, uc), rfl, hw, by rw [ht]; exact hP, va_K.moved hW.alike hK, hD⟩, hS.F ht⟩) hS.2.2 dX3_mask_117
  have J91 : ∀ (K : (Nat → Nat → Int32) → (Nat → Nat → Int32) → Int32 → Prop) (ua : Nat → Nat → Int32) (uc : Nat → Nat → Int32) (x1 : Int32) (x2 : Int32) (x4 : Int32) (s0 : Int32) (s1 : Int32), wp_X3_mask_91 n k2 K ua uc x1 x2 x4 s0 s1 → (∀ (ua : Nat → Nat → Int32) (uc : Nat → Nat → Int32) (x4 : Int32), K ua uc x4 → ∀ (H : Heap) (locs : List Loc) (ls : Array Slot), va_P (dC, dI) vwCl (w_br ga gl cA n ua ++ w_ly (gl k2) cA n uc) H → va_D A (w_br ga gl cA n ua ++ w_ly (gl k2) cA n uc) → va_S A s.heap H locs → lv_has ls 6 [(0, .ref (ga 0)), (1, .int x1), (2, .int x2), (3, .ref (gl k2 0)), (4, .int x4)] → W p l e (headSpec wX3_mask rm_X3_mask).room s m args below meth c H locs 1 6 (vx_MQ below (va_Qi (fun r (u : (Nat → Nat → Int32) × (Nat → Nat → Int32)) => P r (u.1) (u.2)) (xB dC dI cA (fun u : (Nat → Nat → Int32) × (Nat → Nat → Int32) => w_br ga gl cA n (u.1) ++ w_ly (gl k2) cA n (u.2)) A) A) (xX PX) args s 2 12 A) (F0 m 39 ls [])) → ∀ (H : Heap) (locs : List Loc) (ls : Array Slot), va_P (dC, dI) vwCl (w_br ga gl cA n ua ++ w_ly (gl k2) cA n uc) H → va_D A (w_br ga gl cA n ua ++ w_ly (gl k2) cA n uc) → va_S A s.heap H locs → lv_has ls 6 [(0, .ref (ga 0)), (1, .int x1), (2, .int x2), (3, .ref (gl k2 0)), (4, .int x4)] → W p l e (headSpec wX3_mask rm_X3_mask).room s m args below meth c H locs 1 6 (vx_MQ below (va_Qi (fun r (u : (Nat → Nat → Int32) × (Nat → Nat → Int32)) => P r (u.1) (u.2)) (xB dC dI cA (fun u : (Nat → Nat → Int32) × (Nat → Nat → Int32) => w_br ga gl cA n (u.1) ++ w_ly (gl k2) cA n (u.2)) A) A) (xX PX) args s 2 12 A) (F0 m 91 ls [.int s0, .int s1, .ref (ga 2)]) := by
    intro K ua uc x1 x2 x4 s0 s1 hw hk H locs ls hP hD hS hl
    obtain ⟨ua6, e_ua6⟩ : ∃ z, z = st ua 2 s1.toNatClampNeg s0 := ⟨_, rfl⟩
    refine va_iast hx hb hK hP hD hS 2 0 rfl rfl (And.left hw) dX3_mask_91 (fun H locs hP hD hS => ?_)
    replace hw := And.right hw
    replace hw := hw ua6 e_ua6
    have hP : va_P (dC, dI) vwCl (w_br ga gl cA n ua6 ++ w_ly (gl k2) cA n uc) H := by rw [e_ua6]; exact hP
    have hD : va_D A (w_br ga gl cA n ua6 ++ w_ly (gl k2) cA n uc) := by rw [e_ua6]; exact hD
    obtain ⟨v7, e_v7⟩ : ∃ y : Int32, y = x4 + 1 := ⟨_, rfl⟩
    replace hw := hw v7 e_v7
    refine lv_iinc (v := v7) (lv' := [(4, .int v7), (0, .ref (ga 0)), (1, .int x1), (2, .int x2), (3, .ref (gl k2 0))]) hx hb dX3_mask_92 hl (k := 4) rfl (by rw [e_v7]; rfl) (by decide) rfl (fun ls hl => ?_)
    refine lv_goto (tgt := 39) hx hb dX3_mask_95 (by decide) ?_
    exact hk _ _ _ hw _ _ _ hP hD hS (lv_sub hl [1, 2, 3, 4, 0] rfl)
  have J68 : ∀ (K : (Nat → Nat → Int32) → (Nat → Nat → Int32) → Int32 → Prop) (ua : Nat → Nat → Int32) (uc : Nat → Nat → Int32) (x1 : Int32) (x2 : Int32) (x4 : Int32) (s0 : Int32), wp_X3_mask_68 n k2 K ua uc x1 x2 x4 s0 → (∀ (ua : Nat → Nat → Int32) (uc : Nat → Nat → Int32) (x4 : Int32), K ua uc x4 → ∀ (H : Heap) (locs : List Loc) (ls : Array Slot), va_P (dC, dI) vwCl (w_br ga gl cA n ua ++ w_ly (gl k2) cA n uc) H → va_D A (w_br ga gl cA n ua ++ w_ly (gl k2) cA n uc) → va_S A s.heap H locs → lv_has ls 6 [(0, .ref (ga 0)), (1, .int x1), (2, .int x2), (3, .ref (gl k2 0)), (4, .int x4)] → W p l e (headSpec wX3_mask rm_X3_mask).room s m args below meth c H locs 1 6 (vx_MQ below (va_Qi (fun r (u : (Nat → Nat → Int32) × (Nat → Nat → Int32)) => P r (u.1) (u.2)) (xB dC dI cA (fun u : (Nat → Nat → Int32) × (Nat → Nat → Int32) => w_br ga gl cA n (u.1) ++ w_ly (gl k2) cA n (u.2)) A) A) (xX PX) args s 2 12 A) (F0 m 39 ls [])) → ∀ (H : Heap) (locs : List Loc) (ls : Array Slot), va_P (dC, dI) vwCl (w_br ga gl cA n ua ++ w_ly (gl k2) cA n uc) H → va_D A (w_br ga gl cA n ua ++ w_ly (gl k2) cA n uc) → va_S A s.heap H locs → lv_has ls 6 [(0, .ref (ga 0)), (1, .int x1), (2, .int x2), (3, .ref (gl k2 0)), (4, .int x4)] → W p l e (headSpec wX3_mask rm_X3_mask).room s m args below meth c H locs 1 6 (vx_MQ below (va_Qi (fun r (u : (Nat → Nat → Int32) × (Nat → Nat → Int32)) => P r (u.1) (u.2)) (xB dC dI cA (fun u : (Nat → Nat → Int32) × (Nat → Nat → Int32) => w_br ga gl cA n (u.1) ++ w_ly (gl k2) cA n (u.2)) A) A) (xX PX) args s 2 12 A) (F0 m 68 ls [.int s0]) := by
    intro K ua uc x1 x2 x4 s0 hw hk H locs ls hP hD hS hl
    refine lv_istore (lv' := [(5, .int s0), (0, .ref (ga 0)), (1, .int x1), (2, .int x2), (3, .ref (gl k2 0)), (4, .int x4)]) hx hb dX3_mask_68 hl (by decide) rfl (fun ls hl => ?_)
    refine lv_aload_n hx hb dX3_mask_70 rfl (lv_at hl 1 rfl) ?_
    refine va_get (D := (dC, dI)) (ci := 2) (v := .ref (ga 2)) (C := RX3) (T := TX3) (N := 13) hx hb hts iX3 hown hK hP 0 rfl rfl 4 (by decide) (hts _ (xm m83)) (fun _ h9 => h9) rfl dX3_mask_71 ?_
    refine lv_iload hx hb dX3_mask_74 (lv_at hl 5 rfl) ?_
    refine lv_iload_n hx hb dX3_mask_76 rfl (lv_at hl 3 rfl) ?_
    refine lv_if_eq (tgt := 89) hx hb dX3_mask_77 (by decide) (fun c8 => ?_) (fun c8 => ?_)
    · replace hw := And.left hw c8
      refine lv_iload hx hb dX3_mask_89 (lv_at hl 0 rfl) ?_
      exact J91 _ _ _ _ _ _ _ _ hw hk _ _ _ hP hD hS (lv_sub hl [1, 2, 3, 4, 5] rfl)
    · replace hw := And.right hw c8
      refine lv_sipush (v := 255) hx hb dX3_mask_80 (by decide) ?_
      refine lv_iload hx hb dX3_mask_83 (lv_at hl 0 rfl) ?_
      refine lv_isub hx hb dX3_mask_85 ?_
      refine lv_goto (tgt := 91) hx hb dX3_mask_86 (by decide) ?_
      exact J91 _ _ _ _ _ _ _ _ hw hk _ _ _ hP hD hS (lv_sub hl [1, 2, 3, 4, 5] rfl)
  have L39 : ∀ (KX : (Nat → Nat → Int32) → (Nat → Nat → Int32) → Prop) (x1 : Int32) (x2 : Int32), (∀ (ua : Nat → Nat → Int32) (uc : Nat → Nat → Int32), KX ua uc → ∀ (H : Heap) (locs : List Loc) (ls : Array Slot), va_P (dC, dI) vwCl (w_br ga gl cA n ua ++ w_ly (gl k2) cA n uc) H → va_D A (w_br ga gl cA n ua ++ w_ly (gl k2) cA n uc) → va_S A s.heap H locs → lv_has ls 6 [(0, .ref (ga 0))] → W p l e (headSpec wX3_mask rm_X3_mask).room s m args below meth c H locs 1 6 (vx_MQ below (va_Qi (fun r (u : (Nat → Nat → Int32) × (Nat → Nat → Int32)) => P r (u.1) (u.2)) (xB dC dI cA (fun u : (Nat → Nat → Int32) × (Nat → Nat → Int32) => w_br ga gl cA n (u.1) ++ w_ly (gl k2) cA n (u.2)) A) A) (xX PX) args s 2 12 A) (F0 m 98 ls [])) → ∀ (N : Nat) (ua : Nat → Nat → Int32) (uc : Nat → Nat → Int32) (x4 : Int32), wp_X3_mask_39 n k2 KX x1 x2 N ua uc x4 → ∀ (H : Heap) (locs : List Loc) (ls : Array Slot), va_P (dC, dI) vwCl (w_br ga gl cA n ua ++ w_ly (gl k2) cA n uc) H → va_D A (w_br ga gl cA n ua ++ w_ly (gl k2) cA n uc) → va_S A s.heap H locs → lv_has ls 6 [(0, .ref (ga 0)), (1, .int x1), (2, .int x2), (3, .ref (gl k2 0)), (4, .int x4)] → W p l e (headSpec wX3_mask rm_X3_mask).room s m args below meth c H locs 1 6 (vx_MQ below (va_Qi (fun r (u : (Nat → Nat → Int32) × (Nat → Nat → Int32)) => P r (u.1) (u.2)) (xB dC dI cA (fun u : (Nat → Nat → Int32) × (Nat → Nat → Int32) => w_br ga gl cA n (u.1) ++ w_ly (gl k2) cA n (u.2)) A) A) (xX PX) args s 2 12 A) (F0 m 39 ls []) := by
    intro KX x1 x2 hx2 N39
    induction N39 with
    | zero =>
      intro ua uc x4 hw
      exact False.elim hw
    | succ N39 hk =>
      intro ua uc x4 hw H locs ls hP hD hS hl
      rw [wp_X3_mask_39] at hw
      refine lv_iload hx hb dX3_mask_39 (lv_at hl 4 rfl) ?_
      refine lv_aload_n hx hb dX3_mask_41 rfl (lv_at hl 0 rfl) ?_
      refine va_get (D := (dC, dI)) (ci := 2) (v := .int (ua 0 2)) (C := RX3) (T := TX3) (N := 13) hx hb hts iX3 hown hK hP 0 rfl rfl 2 (by decide) (hts _ (xm m81)) (fun _ h9 => h9) rfl dX3_mask_42 ?_
      refine lv_icmp_ge (tgt := 98) hx hb dX3_mask_45 (by decide) (fun c11 => ?_) (fun c11 => ?_)
      · replace hw := And.left hw c11
        exact hx2 _ _ hw _ _ _ hP hD hS (lv_sub hl [0] rfl)
      · replace hw := And.right hw c11
        refine lv_iload_n hx hb dX3_mask_48 rfl (lv_at hl 1 rfl) ?_
        refine lv_iconst (v := 1) hx hb dX3_mask_49 (by decide) ?_
        refine lv_icmp_ne (tgt := 62) hx hb dX3_mask_50 (by decide) (fun c10 => ?_) (fun c10 => ?_)
        · replace hw := And.left hw c10
          refine lv_aload_n hx hb dX3_mask_62 rfl (lv_at hl 3 rfl) ?_
          refine lv_iload hx hb dX3_mask_63 (lv_at hl 4 rfl) ?_
          have hPc := hP.sub (ws' := (w_ly (gl k2) cA n uc)) [4, 5, 6, 7, 8, 9] rfl
          refine vp_callSi (va_Run.run (va_runV (As := [.int x4]) (rest := []) ⟨hx, hb, hml, hown, hts⟩ (c_X0_resultLum l dC dI cA (gl k2) n uc x4 _ hw) (gcV 1 hts m407 m404 m405 m406 m23 rfl rfl (by decide +kernel) ⟨Nat.le_of_ble_eq_true rfl, Nat.le_of_ble_eq_true rfl⟩) ⟨xbl1, va_recv hK hPc (ci := 1) (q0 := 0) rfl rfl, fun U hU hW => ⟨rfl, by rw [hU]; exact hPc, va_K.moved hW.alike hK⟩⟩ rfl rfl hl.1 rfl (lv_room (Nat.le_of_ble_eq_true rfl)) dX3_mask_65 ⟨Nat.le_of_ble_eq_true rfl, Nat.le_of_ble_eq_true rfl⟩)) (fun r5 hw => ?_)
          exact J68 _ _ _ _ _ _ _ hw hk _ _ _ hP hD hS (lv_sub hl [0, 1, 2, 3, 4] rfl)
        · replace hw := And.right hw c10
          refine lv_aload_n hx hb dX3_mask_53 rfl (lv_at hl 3 rfl) ?_
          refine lv_iload hx hb dX3_mask_54 (lv_at hl 4 rfl) ?_
          have hPc := hP.sub (ws' := (w_ly (gl k2) cA n uc)) [4, 5, 6, 7, 8, 9] rfl
          refine vp_callSi (va_Run.run (va_runV (As := [.int x4]) (rest := []) ⟨hx, hb, hml, hown, hts⟩ (c_X0_ownAlpha l dC dI cA (gl k2) n uc x4 _ hw) (gcV 1 hts m308 m305 m306 m307 m23 rfl rfl (by decide +kernel) ⟨Nat.le_of_ble_eq_true rfl, Nat.le_of_ble_eq_true rfl⟩) ⟨xbl1, va_recv hK hPc (ci := 1) (q0 := 0) rfl rfl, fun U hU hW => ⟨rfl, by rw [hU]; exact hPc, va_K.moved hW.alike hK⟩⟩ rfl rfl hl.1 rfl (lv_room (Nat.le_of_ble_eq_true rfl)) dX3_mask_56 ⟨Nat.le_of_ble_eq_true rfl, Nat.le_of_ble_eq_true rfl⟩)) (fun r9 hw => ?_)
          refine lv_goto (tgt := 68) hx hb dX3_mask_59 (by decide) ?_
          exact J68 _ _ _ _ _ _ _ hw hk _ _ _ hP hD hS (lv_sub hl [0, 1, 2, 3, 4] rfl)
  have J24 : ∀ (ua : Nat → Nat → Int32) (uc : Nat → Nat → Int32) (x1 : Int32) (x2 : Int32), wp_X3_mask_24 n k2 P PX ua uc x1 x2 → ∀ (H : Heap) (locs : List Loc) (ls : Array Slot), va_P (dC, dI) vwCl (w_br ga gl cA n ua ++ w_ly (gl k2) cA n uc) H → va_D A (w_br ga gl cA n ua ++ w_ly (gl k2) cA n uc) → va_S A s.heap H locs → lv_has ls 6 [(0, .ref (ga 0)), (1, .int x1), (2, .int x2)] → W p l e (headSpec wX3_mask rm_X3_mask).room s m args below meth c H locs 1 6 (vx_MQ below (va_Qi (fun r (u : (Nat → Nat → Int32) × (Nat → Nat → Int32)) => P r (u.1) (u.2)) (xB dC dI cA (fun u : (Nat → Nat → Int32) × (Nat → Nat → Int32) => w_br ga gl cA n (u.1) ++ w_ly (gl k2) cA n (u.2)) A) A) (xX PX) args s 2 12 A) (F0 m 24 ls []) := by
    intro  ua uc x1 x2 hw H locs ls hP hD hS hl
    refine lv_aload_n hx hb dX3_mask_24 rfl (lv_at hl 0 rfl) ?_
    have hPc := hP.sub (ws' := (w_br ga gl cA n ua)) [0, 1, 2, 3] rfl
    refine vp_callSi (va_Run.run (va_runV (As := []) (rest := []) ⟨hx, hb, hml, hown, hts⟩ (c_X3_hereIsFlat l dC dI cA ga gl n ua _ hw) (gcV 0 hts m238 m235 m237 m1 m21 rfl rfl (by decide +kernel) ⟨Nat.le_of_ble_eq_true rfl, Nat.le_of_ble_eq_true rfl⟩) ⟨xbl1, va_recv hK hPc (ci := 2) (q0 := 0) rfl rfl, fun U hU hW => ⟨rfl, by rw [hU]; exact hPc, va_K.moved hW.alike hK⟩⟩ rfl rfl hl.1 rfl (lv_room (Nat.le_of_ble_eq_true rfl)) dX3_mask_25 ⟨Nat.le_of_ble_eq_true rfl, Nat.le_of_ble_eq_true rfl⟩)) (fun r1 hw => ?_)
    refine lv_if_ne (tgt := 103) hx hb dX3_mask_28 (by decide) (fun c15 => ?_) (fun c15 => ?_)
    · replace hw := And.left hw c15
      exact J103 _ _ hw _ _ _ hP hD hS (lv_sub hl [0] rfl)
    · replace hw := And.right hw c15
      refine lv_aload_n hx hb dX3_mask_31 rfl (lv_at hl 0 rfl) ?_
      have hPc := hP.sub (ws' := (w_br ga gl cA n ua)) [0, 1, 2, 3] rfl
      have hDc := hD.sub (ws' := (w_br ga gl cA n ua)) [0, 1, 2, 3] (by decide) rfl
      have hFc := va_free (wc := (w_br ga gl cA n ua)) hD hS hA [0, 1, 2, 3] rfl
      refine va_callr (va_runV (As := []) (rest := []) ⟨hx, hb, hml, hown, hts⟩ (c_X3_leave l dC dI cA ga gl n k2 _ ua _ hw) (gcV 0 hts m300 m297 m299 m4 m21 rfl rfl (by decide +kernel) ⟨Nat.le_of_ble_eq_true rfl, Nat.le_of_ble_eq_true rfl⟩) ⟨xbl2, va_recv hK hPc (ci := 2) (q0 := 0) rfl rfl, fun U hU hW => ⟨rfl, by rw [hU], by rw [hU]; exact hPc, va_K.moved hW.alike hK, hDc.weaken (fun _ _ _ _ => trivial)⟩⟩ rfl rfl hl.1 rfl (lv_room (Nat.le_of_ble_eq_true rfl)) dX3_mask_32 ⟨Nat.le_of_ble_eq_true rfl, Nat.le_of_ble_eq_true rfl⟩) hS (fun q _ h => hFc q h) hFc (fun u r3 t H1 locs ht hvm hw hB hz1 hk1 hS => ?_)
      obtain ⟨e_r3, hB⟩ := hB
      subst e_r3
      obtain ⟨ua4, e_u⟩ : ∃ z, z = u := ⟨_, rfl⟩
      subst e_u
      obtain ⟨hP1, hK1, hD1⟩ := hB
      rw [ht] at hP1
      have hJ := va_join (wr := (w_ly (gl k2) cA n uc)) (w1 := (w_br ga gl cA n ua4)) hP hD [0, 1, 2, 3] [4, 5, 6, 7, 8, 9] rfl rfl (by decide) (by decide) hk1 hFc hP1 hD1
      have hP : va_P (dC, dI) vwCl (w_br ga gl cA n ua4 ++ w_ly (gl k2) cA n uc) H1 := hJ.1.sub [6, 7, 8, 9, 0, 1, 2, 3, 4, 5] rfl
      have hD : va_D A (w_br ga gl cA n ua4 ++ w_ly (gl k2) cA n uc) := hJ.2.sub [6, 7, 8, 9, 0, 1, 2, 3, 4, 5] (by decide) rfl
      clear hP1 hD1 hK1 hk1 hz1 hFc hDc hPc ht hJ
      generalize H1 = H at hP hS ⊢
      refine lv_astore_n (lv' := [(3, .ref (gl k2 0)), (0, .ref (ga 0)), (1, .int x1), (2, .int x2)]) hx hb dX3_mask_35 rfl hl (by decide) rfl (fun ls hl => ?_)
      refine lv_iconst (v := 0) hx hb dX3_mask_36 (by decide) ?_
      refine lv_istore (lv' := [(4, .int 0), (3, .ref (gl k2 0)), (0, .ref (ga 0)), (1, .int x1), (2, .int x2)]) hx hb dX3_mask_37 hl (by decide) rfl (fun ls hl => ?_)
      obtain ⟨N39, hw⟩ := hw
      refine L39 _ _ _ (fun ua12 uc13 hw H locs ls hP hD hS hl => ?_) N39 _ _ _ hw _ _ _ hP hD hS (lv_sub hl [2, 3, 4, 1, 0] rfl)
      refine lv_aload_n hx hb dX3_mask_98 rfl (lv_at hl 0 rfl) ?_
      refine lv_iconst (v := 1) hx hb dX3_mask_99 (by decide) ?_
      obtain ⟨ua14, e_ua14⟩ : ∃ z, z = st ua12 0 3 1 := ⟨_, rfl⟩
      refine va_put (D := (dC, dI)) (ci := 2) (v := .int 1) (ty := .boolean) (C := RX3) (T := TX3) (N := 13) hx hb hts iX3 tyX3 tyX3_ok nmX3 hown hK hP hD hS 0 rfl rfl 6 (by decide) (hts _ (xm m85)) (fun _ h9 => h9) rfl (by decide +kernel) rfl rfl (Nat.le_of_ble_eq_true rfl) dX3_mask_100 (fun H locs hP hD hS => ?_)
      replace hw := hw ua14 e_ua14
      have hP : va_P (dC, dI) vwCl (w_br ga gl cA n ua14 ++ w_ly (gl k2) cA n uc13) H := by rw [e_ua14]; exact hP
      have hD : va_D A (w_br ga gl cA n ua14 ++ w_ly (gl k2) cA n uc13) := by rw [e_ua14]; exact hD
      exact J103 _ _ hw _ _ _ hP hD hS (lv_sub hl [0] rfl)
  have hl := lv_entry ([.ref (ga 0), .int p0, .int p1]) (n := 6) (Nat.le_of_ble_eq_true rfl)
  rw [show entryFrame m args 6 = entryFrame m (([.ref (ga 0), .int p0, .int p1] : List Value).toArray) 6 from by rw [hargs], lg_entry_eq]
  generalize (lg_sl ([.ref (ga 0), .int p0, .int p1]) ++ List.replicate (6 - (lg_sl ([.ref (ga 0), .int p0, .int p1])).length) Slot.unset).toArray = ls at hl ⊢
  have hl : lv_has ls 6 [(0, .ref (ga 0)), (1, .int p0), (2, .int p1)] := hl
  have hP : va_P (dC, dI) vwCl (w_br ga gl cA n ua ++ w_ly (gl k2) cA n uc) s.heap := hP
  refine lv_aload_n hx hb dX3_mask_0 rfl (lv_at hl 0 rfl) ?_
  have hPc := hP.sub (ws' := (w_br ga gl cA n ua)) [0, 1, 2, 3] rfl
  refine vx_callv (vx_runV (As := []) (rest := []) ⟨hx, hb, hml, hown, hts⟩ (c_X3_needGroup l hl0 dC dI cA sa ga gl n ua _ _ hw) (gcV 0 hts m272 m269 m271 m3 m21 rfl rfl (by decide +kernel) ⟨Nat.le_of_ble_eq_true rfl, Nat.le_of_ble_eq_true rfl⟩) ⟨xbl1t, va_recv hK hPc (ci := 2) (q0 := 0) rfl rfl, fun U hU hW => ⟨rfl, by rw [hU]; exact hPc, va_K.moved hW.alike hK, xEmv hE hW hS hU⟩⟩ rfl rfl hl.1 rfl (lv_room (Nat.le_of_ble_eq_true rfl)) dX3_mask_1 ⟨Nat.le_of_ble_eq_true rfl, Nat.le_of_ble_eq_true rfl⟩) hS (fun q _ h => h.elim) (fun q h => h.elim) (fun q _ h => h.elim) (fun E ce q9 u t H1 locs1 ht hvm hpx hB hz1 hk1 hS1 hce hcv hcl => ?_) (fun u t H1 locs ht hvm hw hB hz1 hk1 hS => ?_)
  · subst hB
    exact vx_out (fun x hx9 => (hnoex x hx9).elim) hlocks hce hcv hcl (fun t ht2 hvm2 => ⟨_, hpx, rfl, hS1.F ht2⟩) (fun z hz => (hS1.2.2 z hz).elim) (Nat.le_of_ble_eq_true rfl) (Nat.le_of_ble_eq_true rfl)
  replace hP := xkeep hP hk1
  clear ht hB hz1 hk1 hPc
  generalize H1 = H at hP hS ⊢
  refine lv_iload_n hx hb dX3_mask_4 rfl (lv_at hl 1 rfl) ?_
  refine lv_iconst (v := 1) hx hb dX3_mask_5 (by decide) ?_
  refine lv_icmp_eq (tgt := 24) hx hb dX3_mask_6 (by decide) (fun c17 => ?_) (fun c17 => ?_)
  · replace hw := And.left hw c17
    replace hS := xmono (A := A) hS
    exact J24 _ _ _ _ hw _ _ _ hP hD hS (lv_sub hl [0, 1, 2] rfl)
  · replace hw := And.right hw c17
    refine lv_iload_n hx hb dX3_mask_9 rfl (lv_at hl 1 rfl) ?_
    refine lv_iconst (v := 2) hx hb dX3_mask_10 (by decide) ?_
    refine lv_icmp_eq (tgt := 24) hx hb dX3_mask_11 (by decide) (fun c16 => ?_) (fun c16 => ?_)
    · replace hw := And.left hw c16
      replace hS := xmono (A := A) hS
      exact J24 _ _ _ _ hw _ _ _ hP hD hS (lv_sub hl [0, 1, 2] rfl)
    · replace hw := And.right hw c16
      exact vx_throwS hx hb hl0 (own := RX3) (cls := "java/lang/IllegalArgumentException") (text := "a mask is of kind 1 or 2") (names := ["java/lang/RuntimeException", "java/lang/Exception"]) hown (by decide +kernel) (by decide +kernel) (hts _ (xm m134)) (hts _ (xm m28)) (hE.2.2.1 6 _ rfl) (xhat tw_IllegalArgumentException_64 hts hE) tw_IllegalArgumentException_64_g hE.1 hE.2.1 hS (hl.1.trans hml.symm) dX3_mask_14 dX3_mask_17 dX3_mask_18 dX3_mask_20 dX3_mask_23 (fun x hx9 => (hnoex x hx9).elim) (Nat.le_of_ble_eq_true rfl) (Nat.le_of_ble_eq_true rfl) (Nat.le_of_ble_eq_true rfl) (Nat.le_of_ble_eq_true rfl) hlocks (fun t _ h1 h2 => ⟨_, hw, rfl, xF hS h1 h2⟩) (fun z hz => (hS.2.2 z hz).elim) (Nat.le_of_ble_eq_true rfl) (Nat.le_of_ble_eq_true rfl)
