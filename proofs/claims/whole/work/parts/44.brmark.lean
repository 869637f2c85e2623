theorem m6 : Cond.selects RX3 yX3_leftByMask yX3_leftByMask ∈ gG := gG_mk (i := 6) (by decide +kernel) (by decide +kernel)
theorem m81 : Cond.fieldLink RX3 25 "BlendRows" "points" "I" ∈ gG := gG_mk (i := 81) (by decide +kernel) (by decide +kernel)
theorem m329 : Cond.methodLink RX3 114 yX3_leftByMask ∈ gG := gG_mk (i := 329) (by decide +kernel) (by decide +kernel)
theorem m331 : Cond.instanceMethod yX3_leftByMask ∈ gG := gG_mk (i := 331) (by decide +kernel) (by decide +kernel)
theorem m332 : Cond.code yX3_leftByMask cX3_leftByMask 3 (some .int) ∈ gG := gG_mk (i := 332) (by decide +kernel) (by decide +kernel)
theorem m333 : Cond.methodLink RX3 120 yX0_put ∈ gG := gG_mk (i := 333) (by decide +kernel) (by decide +kernel)
theorem m334 : Cond.instanceMethod yX0_put ∈ gG := gG_mk (i := 334) (by decide +kernel) (by decide +kernel)
theorem m335 : Cond.selects RX0 yX0_put yX0_put ∈ gG := gG_mk (i := 335) (by decide +kernel) (by decide +kernel)
theorem m336 : Cond.code yX0_put cX0_put 19 none ∈ gG := gG_mk (i := 336) (by decide +kernel) (by decide +kernel)
abbrev wX3_mark : List Cond := Cond.code yX3_mark cX3_mark 9 (some .int) :: gG
def wp_X3_mark_90 (n : Nat) (k : Nat) (K : (Nat → Nat → Int32) → (Nat → Nat → Int32) → Int32 → Int32 → Prop) (ua : Nat → Nat → Int32) (ub : Nat → Nat → Int32) (x1 : Int32) (x2 : Int32) (x3 : Int32) (x5 : Int32) (x6 : Int32) : Prop :=
  ∀ v7 : Int32, v7 = x6 + 1 → K ua ub x5 v7
def wp_X3_mark_26 (n : Nat) (k : Nat) (KX : (Nat → Nat → Int32) → (Nat → Nat → Int32) → Int32 → Prop) (x1 : Int32) (x2 : Int32) (x3 : Int32) : Nat → (Nat → Nat → Int32) → (Nat → Nat → Int32) → Int32 → Int32 → Prop
  | 0, _, _, _, _ => False
  | N26 + 1, ua, ub, x5, x6 =>
    (((ua 0 2) ≤ x6 → KX ua ub x5) ∧
  (¬ (ua 0 2) ≤ x6 → (vp_in x6 n ∧ wp_X2_mul (ua 1 x6.toNatClampNeg) x2 (fun r2 => wp_X2_mul r2 x3 (fun r3 => wp_X3_leftByMask n ua x6 r3 (fun r4 => wp_X0_put n ub x6 (ua 0 4) r2 r4 x1 (ua 0 5) (fun (ub6 : Nat → Nat → Int32) => ((r4 ≤ 0 → wp_X3_mark_90 n k (wp_X3_mark_26 n k KX x1 x2 x3 N26) ua ub6 x1 x2 x3 x5 x6) ∧
  (¬ r4 ≤ 0 → ∀ v8 : Int32, v8 = x5 + 1 → wp_X3_mark_90 n k (wp_X3_mark_26 n k KX x1 x2 x3 N26) ua ub6 x1 x2 x3 v8 x6)))))))))
def wp_X3_mark (n : Nat) (k : Nat) (ua : Nat → Nat → Int32) (ub : Nat → Nat → Int32) (p0 : Int32) (p1 : Int32) (p2 : Int32) (P : Int32 → (Nat → Nat → Int32) → (Nat → Nat → Int32) → Prop) (PX : String → Prop) : Prop :=
  wp_X3_needMode p0 15 (wp_X3_needByte p1 (wp_X3_needByte p2 (wp_X3_here n k ua ((∃ N26, wp_X3_mark_26 n k (fun (ua11 : Nat → Nat → Int32) (ub12 : Nat → Nat → Int32) (y13 : Int32) => ∀ ua14 : Nat → Nat → Int32, ua14 = st ua11 0 9 ((ua11 0 9) + 1) → P y13 ua14 ub12) p0 p1 p2 N26 ua ub 0 0))) PX) PX) PX
abbrev rm_X3_mark : Room := { frames := 7, cells := 3, slots := 18, locals := 153 }
set_option maxHeartbeats 4000000 in
set_option maxRecDepth 100000 in
theorem c_X3_mark (l : Launch) (hl0 : l.stackTraces = false) (dC : Nat → ClassId) (dI : Nat → Nat → Nat) (cA : Nat → ClassId) (sa : Nat → Nat) (ga : Nat → Nat) (gl : Nat → Nat → Nat) (n : Nat) (k : Nat) (sz : Nat) (ua : Nat → Nat → Int32) (ub : Nat → Nat → Int32) (p0 : Int32) (p1 : Int32) (p2 : Int32) (P : Int32 → (Nat → Nat → Int32) → (Nat → Nat → Int32) → Prop) (PX : String → Prop) (hw : wp_X3_mark n k ua ub p0 p1 p2 P PX) : vx_Met l yX3_mark wX3_mark rm_X3_mark (xP2t dC dI cA sa (w_br ga gl cA n ua ++ w_ly (gl k) cA n ub) sz [.ref (ga 0), .int p0, .int p1, .int p2]) (va_Qi (fun r (u : (Nat → Nat → Int32) × (Nat → Nat → Int32)) => P r (u.1) (u.2)) (xB dC dI cA (fun u : (Nat → Nat → Int32) × (Nat → Nat → Int32) => w_br ga gl cA n (u.1) ++ w_ly (gl k) cA n (u.2)) (va_A (w_br ga gl cA n ua ++ w_ly (gl k) cA n ub) sz)) (va_A (w_br ga gl cA n ua ++ w_ly (gl k) cA n ub) sz)) (xX PX) 3 18 (va_A (w_br ga gl cA n ua ++ w_ly (gl k) cA n ub) sz) := by
  refine vx_ofW (cc := cX3_mark) (maxL := 9) (ret := (some .int)) (by decide) rfl ?_
  intro p e s m args below meth c s₁ B hml hnoex hv
  obtain ⟨hargs, hsz, hP, hK, hD0, hE⟩ := hv
  have hx := B.exec
  have hb := B.bytes
  have hr := B.returns
  have hts := atoms_spec (ws := wX3_mark) B.pre
  have hown : s.vm.findClass RX3 = some m.cls := findClass_of_methodNamed B.named
  have hlocks := B.notSynchronized
  subst hsz
  have hD := hD0.self (sz := s.heap.size)
  generalize hAe : va_A (w_br ga gl cA n ua ++ w_ly (gl k) cA n ub) s.heap.size = A at hD ⊢
  have hA : ∀ q : Nat, s.heap.size ≤ q → A q := fun q h => by rw [← hAe]; exact Or.inr h
  have hS : va_S (fun _ => False) s.heap s.heap [] := va_S.rf
  clear hAe hD0
  have J90 : ∀ (K : (Nat → Nat → Int32) → (Nat → Nat → Int32) → Int32 → Int32 → Prop) (ua : Nat → Nat → Int32) (ub : Nat → Nat → Int32) (x1 : Int32) (x2 : Int32) (x3 : Int32) (x5 : Int32) (x6 : Int32), wp_X3_mark_90 n k K ua ub x1 x2 x3 x5 x6 → (∀ (ua : Nat → Nat → Int32) (ub : Nat → Nat → Int32) (x5 : Int32) (x6 : Int32), K ua ub x5 x6 → ∀ (H : Heap) (locs : List Loc) (ls : Array Slot), va_P (dC, dI) vwCl (w_br ga gl cA n ua ++ w_ly (gl k) cA n ub) H → va_D A (w_br ga gl cA n ua ++ w_ly (gl k) cA n ub) → va_S A s.heap H locs → lv_has ls 9 [(0, .ref (ga 0)), (1, .int x1), (2, .int x2), (3, .int x3), (4, .ref (gl k 0)), (5, .int x5), (6, .int x6)] → W p l e (headSpec wX3_mark rm_X3_mark).room s m args below meth c H locs 3 18 (vx_MQ below (va_Qi (fun r (u : (Nat → Nat → Int32) × (Nat → Nat → Int32)) => P r (u.1) (u.2)) (xB dC dI cA (fun u : (Nat → Nat → Int32) × (Nat → Nat → Int32) => w_br ga gl cA n (u.1) ++ w_ly (gl k) cA n (u.2)) A) A) (xX PX) args s 3 18 A) (F0 m 26 ls [])) → ∀ (H : Heap) (locs : List Loc) (ls : Array Slot), va_P (dC, dI) vwCl (w_br ga gl cA n ua ++ w_ly (gl k) cA n ub) H → va_D A (w_br ga gl cA n ua ++ w_ly (gl k) cA n ub) → va_S A s.heap H locs → lv_has ls 9 [(0, .ref (ga 0)), (1, .int x1), (2, .int x2), (3, .int x3), (4, .ref (gl k 0)), (5, .int x5), (6, .int x6)] → W p l e (headSpec wX3_mark rm_X3_mark).room s m args below meth c H locs 3 18 (vx_MQ below (va_Qi (fun r (u : (Nat → Nat → Int32) × (Nat → Nat → Int32)) => P r (u.1) (u.2)) (xB dC dI cA (fun u : (Nat → Nat → Int32) × (Nat → Nat → Int32) => w_br ga gl cA n (u.1) ++ w_ly (gl k) cA n (u.2)) A) A) (xX PX) args s 3 18 A) (F0 m 90 ls []) := by
    intro K ua ub x1 x2 x3 x5 x6 hw hk H locs ls hP hD hS hl
    obtain ⟨v7, e_v7⟩ : ∃ y : Int32, y = x6 + 1 := ⟨_, rfl⟩
    replace hw := hw v7 e_v7
    refine lv_iinc (v := v7) (lv' := [(6, .int v7), (0, .ref (ga 0)), (1, .int x1), (2, .int x2), (3, .int x3), (4, .ref (gl k 0)), (5, .int x5)]) hx hb dX3_mark_90 hl (k := 6) rfl (by rw [e_v7]; rfl) (by decide) rfl (fun ls hl => ?_)
    refine lv_goto (tgt := 26) hx hb dX3_mark_93 (by decide) ?_
    exact hk _ _ _ _ hw _ _ _ hP hD hS (lv_sub hl [1, 2, 3, 4, 5, 6, 0] rfl)
  have L26 : ∀ (KX : (Nat → Nat → Int32) → (Nat → Nat → Int32) → Int32 → Prop) (x1 : Int32) (x2 : Int32) (x3 : Int32), (∀ (ua : Nat → Nat → Int32) (ub : Nat → Nat → Int32) (x5 : Int32), KX ua ub x5 → ∀ (H : Heap) (locs : List Loc) (ls : Array Slot), va_P (dC, dI) vwCl (w_br ga gl cA n ua ++ w_ly (gl k) cA n ub) H → va_D A (w_br ga gl cA n ua ++ w_ly (gl k) cA n ub) → va_S A s.heap H locs → lv_has ls 9 [(0, .ref (ga 0)), (5, .int x5)] → W p l e (headSpec wX3_mark rm_X3_mark).room s m args below meth c H locs 3 18 (vx_MQ below (va_Qi (fun r (u : (Nat → Nat → Int32) × (Nat → Nat → Int32)) => P r (u.1) (u.2)) (xB dC dI cA (fun u : (Nat → Nat → Int32) × (Nat → Nat → Int32) => w_br ga gl cA n (u.1) ++ w_ly (gl k) cA n (u.2)) A) A) (xX PX) args s 3 18 A) (F0 m 96 ls [])) → ∀ (N : Nat) (ua : Nat → Nat → Int32) (ub : Nat → Nat → Int32) (x5 : Int32) (x6 : Int32), wp_X3_mark_26 n k KX x1 x2 x3 N ua ub x5 x6 → ∀ (H : Heap) (locs : List Loc) (ls : Array Slot), va_P (dC, dI) vwCl (w_br ga gl cA n ua ++ w_ly (gl k) cA n ub) H → va_D A (w_br ga gl cA n ua ++ w_ly (gl k) cA n ub) → va_S A s.heap H locs → lv_has ls 9 [(0, .ref (ga 0)), (1, .int x1), (2, .int x2), (3, .int x3), (4, .ref (gl k 0)), (5, .int x5), (6, .int x6)] → W p l e (headSpec wX3_mark rm_X3_mark).room s m args below meth c H locs 3 18 (vx_MQ below (va_Qi (fun r (u : (Nat → Nat → Int32) × (Nat → Nat → Int32)) => P r (u.1) (u.2)) (xB dC dI cA (fun u : (Nat → Nat → Int32) × (Nat → Nat → Int32) => w_br ga gl cA n (u.1) ++ w_ly (gl k) cA n (u.2)) A) A) (xX PX) args s 3 18 A) (F0 m 26 ls []) := by
    intro KX x1 x2 x3 hx2 N26
    induction N26 with
    | zero =>
      intro ua ub x5 x6 hw
      exact False.elim hw
    | succ N26 hk =>
      intro ua ub x5 x6 hw H locs ls hP hD hS hl
      rw [wp_X3_mark_26] at hw
      refine lv_iload hx hb dX3_mark_26 (lv_at hl 6 rfl) ?_
      refine lv_aload_n hx hb dX3_mark_28 rfl (lv_at hl 0 rfl) ?_
      refine va_get (D := (dC, dI)) (ci := 2) (v := .int (ua 0 2)) (C := RX3) (T := TX3) (N := 13) hx hb hts iX3 hown hK hP 0 rfl rfl 2 (by decide) (hts _ (xm m81)) (fun _ h9 => h9) rfl dX3_mark_29 ?_
      refine lv_icmp_ge (tgt := 96) hx hb dX3_mark_32 (by decide) (fun c10 => ?_) (fun c10 => ?_)
      · replace hw := And.left hw c10
        exact hx2 _ _ _ hw _ _ _ hP hD hS (lv_sub hl [0, 5] rfl)
      · replace hw := And.right hw c10
        refine lv_aload_n hx hb dX3_mark_35 rfl (lv_at hl 0 rfl) ?_
        refine va_get (D := (dC, dI)) (ci := 2) (v := .ref (ga 1)) (C := RX3) (T := TX3) (N := 13) hx hb hts iX3 hown hK hP 0 rfl rfl 3 (by decide) (hts _ (xm m82)) (fun _ h9 => h9) rfl dX3_mark_36 ?_
        refine lv_iload hx hb dX3_mark_39 (lv_at hl 6 rfl) ?_
        refine va_iald hx hb hK hP 1 0 rfl rfl (And.left hw) dX3_mark_41 ?_
        replace hw := And.right hw
        refine lv_iload_n hx hb dX3_mark_42 rfl (lv_at hl 2 rfl) ?_
        refine vp_callSi (va_Run.run (va_runS (As := [.int (ua 1 x6.toNatClampNeg), .int x2]) (rest := []) ⟨hx, hb, hml, hown, hts⟩ (c_X2_mul l (ua 1 x6.toNatClampNeg) x2 _ hw) (gcS 2 hts m260 m309 m259 m30 rfl rfl (by decide +kernel) ⟨Nat.le_of_ble_eq_true rfl, Nat.le_of_ble_eq_true rfl⟩) ⟨xbl0, fun U hU hW => ⟨rfl, trivial⟩⟩ rfl rfl hl.1 rfl (lv_room (Nat.le_of_ble_eq_true rfl)) dX3_mark_43 ⟨Nat.le_of_ble_eq_true rfl, Nat.le_of_ble_eq_true rfl⟩)) (fun r2 hw => ?_)
        refine lv_istore (lv' := [(7, .int r2), (0, .ref (ga 0)), (1, .int x1), (2, .int x2), (3, .int x3), (4, .ref (gl k 0)), (5, .int x5), (6, .int x6)]) hx hb dX3_mark_46 hl (by decide) rfl (fun ls hl => ?_)
        refine lv_aload_n hx hb dX3_mark_48 rfl (lv_at hl 1 rfl) ?_
        refine lv_iload hx hb dX3_mark_49 (lv_at hl 7 rfl) ?_
        refine lv_iload hx hb dX3_mark_51 (lv_at hl 0 rfl) ?_
        refine lv_iload_n hx hb dX3_mark_53 rfl (lv_at hl 4 rfl) ?_
        refine vp_callSi (va_Run.run (va_runS (As := [.int r2, .int x3]) (rest := [.int x6, .ref (ga 0)]) ⟨hx, hb, hml, hown, hts⟩ (c_X2_mul l r2 x3 _ hw) (gcS 2 hts m260 m309 m259 m30 rfl rfl (by decide +kernel) ⟨Nat.le_of_ble_eq_true rfl, Nat.le_of_ble_eq_true rfl⟩) ⟨xbl0, fun U hU hW => ⟨rfl, trivial⟩⟩ rfl rfl hl.1 rfl (lv_room (Nat.le_of_ble_eq_true rfl)) dX3_mark_54 ⟨Nat.le_of_ble_eq_true rfl, Nat.le_of_ble_eq_true rfl⟩)) (fun r3 hw => ?_)
        have hPc := hP.sub (ws' := (w_br ga gl cA n ua)) [0, 1, 2, 3] rfl
        refine vp_callSi (va_Run.run (va_runV (As := [.int x6, .int r3]) (rest := []) ⟨hx, hb, hml, hown, hts⟩ (c_X3_leftByMask l dC dI cA ga gl n ua x6 r3 _ hw) (gcV 2 hts m332 m329 m331 m6 m21 rfl rfl (by decide +kernel) ⟨Nat.le_of_ble_eq_true rfl, Nat.le_of_ble_eq_true rfl⟩) ⟨xbl1, va_recv hK hPc (ci := 2) (q0 := 0) rfl rfl, fun U hU hW => ⟨rfl, by rw [hU]; exact hPc, va_K.moved hW.alike hK⟩⟩ rfl rfl hl.1 rfl (lv_room (Nat.le_of_ble_eq_true rfl)) dX3_mark_57 ⟨Nat.le_of_ble_eq_true rfl, Nat.le_of_ble_eq_true rfl⟩)) (fun r4 hw => ?_)
        refine lv_istore (lv' := [(8, .int r4), (7, .int r2), (0, .ref (ga 0)), (1, .int x1), (2, .int x2), (3, .int x3), (4, .ref (gl k 0)), (5, .int x5), (6, .int x6)]) hx hb dX3_mark_60 hl (by decide) rfl (fun ls hl => ?_)
        refine lv_aload hx hb dX3_mark_62 (lv_at hl 6 rfl) ?_
        refine lv_iload hx hb dX3_mark_64 (lv_at hl 8 rfl) ?_
        refine lv_aload_n hx hb dX3_mark_66 rfl (lv_at hl 2 rfl) ?_
        refine va_get (D := (dC, dI)) (ci := 2) (v := .int (ua 0 4)) (C := RX3) (T := TX3) (N := 13) hx hb hts iX3 hown hK hP 0 rfl rfl 7 (by decide) (hts _ (xm m86)) (fun _ h9 => h9) rfl dX3_mark_67 ?_
        refine lv_iload hx hb dX3_mark_70 (lv_at hl 1 rfl) ?_
        refine lv_iload hx hb dX3_mark_72 (lv_at hl 0 rfl) ?_
        refine lv_iload_n hx hb dX3_mark_74 rfl (lv_at hl 3 rfl) ?_
        refine lv_aload_n hx hb dX3_mark_75 rfl (lv_at hl 2 rfl) ?_
        refine va_get (D := (dC, dI)) (ci := 2) (v := .int (ua 0 5)) (C := RX3) (T := TX3) (N := 13) hx hb hts iX3 hown hK hP 0 rfl rfl 8 (by decide) (hts _ (xm m87)) (fun _ h9 => h9) rfl dX3_mark_76 ?_
        have hPc := hP.sub (ws' := (w_ly (gl k) cA n ub)) [4, 5, 6, 7, 8, 9] rfl
        have hDc := hD.sub (ws' := (w_ly (gl k) cA n ub)) [4, 5, 6, 7, 8, 9] (by decide) rfl
        have hFc := va_free (wc := (w_ly (gl k) cA n ub)) hD hS hA [4, 5, 6, 7, 8, 9] rfl
        refine va_callv (va_runV (As := [.int x6, .int (ua 0 4), .int r2, .int r4, .int x1, .int (ua 0 5)]) (rest := []) ⟨hx, hb, hml, hown, hts⟩ (c_X0_put l dC dI cA (gl k) n _ ub x6 (ua 0 4) r2 r4 x1 (ua 0 5) _ hw) (gcV 6 hts m336 m333 m334 m335 m23 rfl rfl (by decide +kernel) ⟨Nat.le_of_ble_eq_true rfl, Nat.le_of_ble_eq_true rfl⟩) ⟨xbl2, va_recv hK hPc (ci := 1) (q0 := 0) rfl rfl, fun U hU hW => ⟨rfl, by rw [hU], by rw [hU]; exact hPc, va_K.moved hW.alike hK, hDc.weaken (fun _ _ _ _ => trivial)⟩⟩ rfl rfl hl.1 rfl (lv_room (Nat.le_of_ble_eq_true rfl)) dX3_mark_79 ⟨Nat.le_of_ble_eq_true rfl, Nat.le_of_ble_eq_true rfl⟩) hS (fun q _ h => hFc q h) hFc (fun u t H1 locs ht hvm hw hB hz1 hk1 hS => ?_)
        obtain ⟨ub6, e_u⟩ : ∃ z, z = u := ⟨_, rfl⟩
        subst e_u
        obtain ⟨hP1, hK1, hD1⟩ := hB
        rw [ht] at hP1
        have hJ := va_join (wr := (w_br ga gl cA n ua)) (w1 := (w_ly (gl k) cA n ub6)) hP hD [4, 5, 6, 7, 8, 9] [0, 1, 2, 3] rfl rfl (by decide) (by decide) hk1 hFc hP1 hD1
        have hP : va_P (dC, dI) vwCl (w_br ga gl cA n ua ++ w_ly (gl k) cA n ub6) H1 := hJ.1.sub [0, 1, 2, 3, 4, 5, 6, 7, 8, 9] rfl
        have hD : va_D A (w_br ga gl cA n ua ++ w_ly (gl k) cA n ub6) := hJ.2.sub [0, 1, 2, 3, 4, 5, 6, 7, 8, 9] (by decide) rfl
        clear hP1 hD1 hK1 hk1 hz1 hFc hDc hPc ht hJ
        generalize H1 = H at hP hS ⊢
        refine lv_iload hx hb dX3_mark_82 (lv_at hl 0 rfl) ?_
        refine lv_if_le (tgt := 90) hx hb dX3_mark_84 (by decide) (fun c9 => ?_) (fun c9 => ?_)
        · replace hw := And.left hw c9
          exact J90 _ _ _ _ _ _ _ _ hw hk _ _ _ hP hD hS (lv_sub hl [2, 3, 4, 5, 6, 7, 8] rfl)
        · replace hw := And.right hw c9
          obtain ⟨v8, e_v8⟩ : ∃ y : Int32, y = x5 + 1 := ⟨_, rfl⟩
          replace hw := hw v8 e_v8
          refine lv_iinc (v := v8) (lv' := [(5, .int v8), (8, .int r4), (7, .int r2), (0, .ref (ga 0)), (1, .int x1), (2, .int x2), (3, .int x3), (4, .ref (gl k 0)), (6, .int x6)]) hx hb dX3_mark_87 hl (k := 7) rfl (by rw [e_v8]; rfl) (by decide) rfl (fun ls hl => ?_)
          exact J90 _ _ _ _ _ _ _ _ hw hk _ _ _ hP hD hS (lv_sub hl [3, 4, 5, 6, 7, 0, 8] rfl)
  have hl := lv_entry ([.ref (ga 0), .int p0, .int p1, .int p2]) (n := 9) (Nat.le_of_ble_eq_true rfl)
  rw [show entryFrame m args 9 = entryFrame m (([.ref (ga 0), .int p0, .int p1, .int p2] : List Value).toArray) 9 from by rw [hargs], lg_entry_eq]
  generalize (lg_sl ([.ref (ga 0), .int p0, .int p1, .int p2]) ++ List.replicate (9 - (lg_sl ([.ref (ga 0), .int p0, .int p1, .int p2])).length) Slot.unset).toArray = ls at hl ⊢
  have hl : lv_has ls 9 [(0, .ref (ga 0)), (1, .int p0), (2, .int p1), (3, .int p2)] := hl
  have hP : va_P (dC, dI) vwCl (w_br ga gl cA n ua ++ w_ly (gl k) cA n ub) s.heap := hP
  refine lv_iload_n hx hb dX3_mark_0 rfl (lv_at hl 1 rfl) ?_
  refine lv_bipush (v := 15) hx hb dX3_mark_1 (by decide) ?_
  refine vx_callv (vx_runS (As := [.int p0, .int 15]) (rest := []) ⟨hx, hb, hml, hown, hts⟩ (c_X3_needMode l hl0 sa p0 15 _ _ hw) (gcS 2 hts m291 m289 m290 m21 rfl rfl (by decide +kernel) ⟨Nat.le_of_ble_eq_true rfl, Nat.le_of_ble_eq_true rfl⟩) ⟨xbl0t, fun U hU hW => ⟨rfl, xEmv hE hW hS hU⟩⟩ rfl rfl hl.1 rfl (lv_room (Nat.le_of_ble_eq_true rfl)) dX3_mark_3 ⟨Nat.le_of_ble_eq_true rfl, Nat.le_of_ble_eq_true rfl⟩) hS (fun q _ h => h.elim) (fun q h => h.elim) (fun q _ h => h.elim) (fun E ce q9 u t H1 locs1 ht hvm hpx hB hz1 hk1 hS1 hce hcv hcl => ?_) (fun u t H1 locs ht hvm hw hB hz1 hk1 hS => ?_)
  · subst hB
    exact vx_out (fun x hx9 => (hnoex x hx9).elim) hlocks hce hcv hcl (fun t ht2 hvm2 => ⟨_, hpx, rfl, hS1.F ht2⟩) (fun z hz => (hS1.2.2 z hz).elim) (Nat.le_of_ble_eq_true rfl) (Nat.le_of_ble_eq_true rfl)
  replace hP := xkeep hP hk1
  clear ht hB hz1 hk1
  generalize H1 = H at hP hS ⊢
  refine lv_iload_n hx hb dX3_mark_6 rfl (lv_at hl 2 rfl) ?_
  refine vx_callv (vx_runS (As := [.int p1]) (rest := []) ⟨hx, hb, hml, hown, hts⟩ (c_X3_needByte l hl0 sa p1 _ _ hw) (gcS 1 hts m295 m293 m294 m21 rfl rfl (by decide +kernel) ⟨Nat.le_of_ble_eq_true rfl, Nat.le_of_ble_eq_true rfl⟩) ⟨xbl0t, fun U hU hW => ⟨rfl, xEmv hE hW hS hU⟩⟩ rfl rfl hl.1 rfl (lv_room (Nat.le_of_ble_eq_true rfl)) dX3_mark_7 ⟨Nat.le_of_ble_eq_true rfl, Nat.le_of_ble_eq_true rfl⟩) hS (fun q _ h => h.elim) (fun q h => h.elim) (fun q _ h => h.elim) (fun E ce q9 u t H1 locs1 ht hvm hpx hB hz1 hk1 hS1 hce hcv hcl => ?_) (fun u t H1 locs ht hvm hw hB hz1 hk1 hS => ?_)
  · subst hB
    exact vx_out (fun x hx9 => (hnoex x hx9).elim) hlocks hce hcv hcl (fun t ht2 hvm2 => ⟨_, hpx, rfl, hS1.F ht2⟩) (fun z hz => (hS1.2.2 z hz).elim) (Nat.le_of_ble_eq_true rfl) (Nat.le_of_ble_eq_true rfl)
  replace hP := xkeep hP hk1
  clear ht hB hz1 hk1
  generalize H1 = H at hP hS ⊢
  refine lv_iload_n hx hb dX3_mark_10 rfl (lv_at hl 3 rfl) ?_
  refine vx_callv (vx_runS (As := [.int p2]) (rest := []) ⟨hx, hb, hml, hown, hts⟩ (c_X3_needByte l hl0 sa p2 _ _ hw) (gcS 1 hts m295 m293 m294 m21 rfl rfl (by decide +kernel) ⟨Nat.le_of_ble_eq_true rfl, Nat.le_of_ble_eq_true rfl⟩) ⟨xbl0t, fun U hU hW => ⟨rfl, xEmv hE hW hS hU⟩⟩ rfl rfl hl.1 rfl (lv_room (Nat.le_of_ble_eq_true rfl)) dX3_mark_11 ⟨Nat.le_of_ble_eq_true rfl, Nat.le_of_ble_eq_true rfl⟩) hS (fun q _ h => h.elim) (fun q h => h.elim) (fun q _ h => h.elim) (fun E ce q9 u t H1 locs1 ht hvm hpx hB hz1 hk1 hS1 hce hcv hcl => ?_) (fun u t H1 locs ht hvm hw hB hz1 hk1 hS => ?_)
  · subst hB
    exact vx_out (fun x hx9 => (hnoex x hx9).elim) hlocks hce hcv hcl (fun t ht2 hvm2 => ⟨_, hpx, rfl, hS1.F ht2⟩) (fun z hz => (hS1.2.2 z hz).elim) (Nat.le_of_ble_eq_true rfl) (Nat.le_of_ble_eq_true rfl)
  replace hP := xkeep hP hk1
  clear ht hB hz1 hk1
  generalize H1 = H at hP hS ⊢
  refine lv_aload_n hx hb dX3_mark_14 rfl (lv_at hl 0 rfl) ?_
  have hPc := hP.sub (ws' := (w_br ga gl cA n ua)) [0, 1, 2, 3] rfl
  refine xcallSr (va_Run.run (va_runV (As := []) (rest := []) ⟨hx, hb, hml, hown, hts⟩ (c_X3_here l dC dI cA ga gl n k ua _ hw) (gcV 0 hts m242 m239 m241 m2 m21 rfl rfl (by decide +kernel) ⟨Nat.le_of_ble_eq_true rfl, Nat.le_of_ble_eq_true rfl⟩) ⟨xbl1, va_recv hK hPc (ci := 2) (q0 := 0) rfl rfl, fun U hU hW => ⟨rfl, by rw [hU]; exact hPc, va_K.moved hW.alike hK⟩⟩ rfl rfl hl.1 rfl (lv_room (Nat.le_of_ble_eq_true rfl)) dX3_mark_15 ⟨Nat.le_of_ble_eq_true rfl, Nat.le_of_ble_eq_true rfl⟩)) (fun r1 hw => ?_)
  obtain ⟨e_r1, hw⟩ := hw
  subst e_r1
  refine lv_astore (lv' := [(4, .ref (gl k 0)), (0, .ref (ga 0)), (1, .int p0), (2, .int p1), (3, .int p2)]) hx hb dX3_mark_18 hl (by decide) rfl (fun ls hl => ?_)
  refine lv_iconst (v := 0) hx hb dX3_mark_20 (by decide) ?_
  refine lv_istore (lv' := [(5, .int 0), (4, .ref (gl k 0)), (0, .ref (ga 0)), (1, .int p0), (2, .int p1), (3, .int p2)]) hx hb dX3_mark_21 hl (by decide) rfl (fun ls hl => ?_)
  refine lv_iconst (v := 0) hx hb dX3_mark_23 (by decide) ?_
  refine lv_istore (lv' := [(6, .int 0), (5, .int 0), (4, .ref (gl k 0)), (0, .ref (ga 0)), (1, .int p0), (2, .int p1), (3, .int p2)]) hx hb dX3_mark_24 hl (by decide) rfl (fun ls hl => ?_)
  replace hS := xmono (A := A) hS
  obtain ⟨N26, hw⟩ := hw
  refine L26 _ _ _ _ (fun ua11 ub12 y13 hw H locs ls hP hD hS hl => ?_) N26 _ _ _ _ hw _ _ _ hP hD hS (lv_sub hl [3, 4, 5, 6, 2, 1, 0] rfl)
  refine lv_aload_n hx hb dX3_mark_96 rfl (lv_at hl 0 rfl) ?_
  refine lv_dup hx hb dX3_mark_97 rfl ?_
  refine va_get (D := (dC, dI)) (ci := 2) (v := .int (ua11 0 9)) (C := RX3) (T := TX3) (N := 13) hx hb hts iX3 hown hK hP 0 rfl rfl 12 (by decide) (hts _ (xm m91)) (fun _ h9 => h9) rfl dX3_mark_98 ?_
  refine lv_iconst (v := 1) hx hb dX3_mark_101 (by decide) ?_
  refine lv_iadd hx hb dX3_mark_102 ?_
  obtain ⟨ua14, e_ua14⟩ : ∃ z, z = st ua11 0 9 ((ua11 0 9) + 1) := ⟨_, rfl⟩
  refine va_put (D := (dC, dI)) (ci := 2) (v := .int ((ua11 0 9) + 1)) (ty := .int) (C := RX3) (T := TX3) (N := 13) hx hb hts iX3 tyX3 tyX3_ok nmX3 hown hK hP hD hS 0 rfl rfl 12 (by decide) (hts _ (xm m91)) (fun _ h9 => h9) rfl (by decide +kernel) rfl rfl (Nat.le_of_ble_eq_true rfl) dX3_mark_103 (fun H locs hP hD hS => ?_)
  replace hw := hw ua14 e_ua14
  have hP : va_P (dC, dI) vwCl (w_br ga gl cA n ua14 ++ w_ly (gl k) cA n ub12) H := by rw [e_ua14]; exact hP
  have hD : va_D A (w_br ga gl cA n ua14 ++ w_ly (gl k) cA n ub12) := by rw [e_ua14]; exact hD
  refine lv_iload hx hb dX3_mark_106 (lv_at hl 1 rfl) ?_
  refine vx_ret ?_
  exact W.iret hx hb hr (fun t ht hW => ⟨⟨_, (ua14, ub12), rfl, hw, by rw [ht]; exact hP, va_K.moved hW.alike hK, hD⟩, hS.F ht⟩) hS.2.2 dX3_mark_108
