theorem m62 : Cond.fieldLink RX0 31 "BlendRows$Layer" "knocksOut" "Z" ∈ gG := gG_mk (i := 62) (by decide +kernel) (by decide +kernel)
theorem m251 : Cond.methodLink RX0 39 yX0_wholeAlpha ∈ gG := gG_mk (i := 251) (by decide +kernel) (by decide +kernel)
theorem m252 : Cond.instanceMethod yX0_wholeAlpha ∈ gG := gG_mk (i := 252) (by decide +kernel) (by decide +kernel)
theorem m253 : Cond.selects RX0 yX0_wholeAlpha yX0_wholeAlpha ∈ gG := gG_mk (i := 253) (by decide +kernel) (by decide +kernel)
theorem m254 : Cond.code yX0_wholeAlpha cX0_wholeAlpha 2 (some .int) ∈ gG := gG_mk (i := 254) (by decide +kernel) (by decide +kernel)
theorem m337 : Cond.methodLink RX0 48 yX1_ofColours ∈ gG := gG_mk (i := 337) (by decide +kernel) (by decide +kernel)
theorem m338 : Cond.static yX1_ofColours ∈ gG := gG_mk (i := 338) (by decide +kernel) (by decide +kernel)
theorem m339 : Cond.code yX1_ofColours cX1_ofColours 3 (some .int) ∈ gG := gG_mk (i := 339) (by decide +kernel) (by decide +kernel)
theorem m393 : Cond.methodLink RX0 57 yX2_nearest ∈ gG := gG_mk (i := 393) (by decide +kernel) (by decide +kernel)
theorem m394 : Cond.static yX2_nearest ∈ gG := gG_mk (i := 394) (by decide +kernel) (by decide +kernel)
theorem m395 : Cond.code yX2_nearest cX2_nearest 2 (some .int) ∈ gG := gG_mk (i := 395) (by decide +kernel) (by decide +kernel)
abbrev wX0_put : List Cond := Cond.code yX0_put cX0_put 19 none :: gG
def wp_X0_put_231 (n : Nat) (K : (Nat → Nat → Int32) → Int32 → Int32 → Prop) (ub : Nat → Nat → Int32) (x1 : Int32) (x2 : Int32) (x3 : Int32) (x4 : Int32) (x6 : Int32) (x7 : Int32) (x8 : Int32) (x9 : Int32) (x11 : Int32) (x12 : Int32) (x13 : Int32) (x14 : Int32) (x15 : Int32) (s0 : Int32) : Prop :=
  (vp_in x1 n ∧ wp_X2_bandOf (ub 3 x1.toNatClampNeg) x14 (fun r10 => ∀ v11 : Int32, v11 = (((((255 - x3) * x7) * r10) + (((x3 - x4) * x9) * x15)) + (x4 * s0)) → wp_X2_nearest v11 (255 * x11) (fun r12 => ∀ v13 : Int32, v13 = (x13 ||| (r12 <<< ((8 * x14) &&& 31))) → ∀ v14 : Int32, v14 = x14 + 1 → K ub v13 v14)))
def wp_X0_put_191 (n : Nat) (K : (Nat → Nat → Int32) → Int32 → Int32 → Prop) (ub : Nat → Nat → Int32) (x1 : Int32) (x2 : Int32) (x3 : Int32) (x4 : Int32) (x6 : Int32) (x7 : Int32) (x8 : Int32) (x9 : Int32) (x11 : Int32) (x12 : Int32) (x13 : Int32) (x14 : Int32) (x15 : Int32) (s0 : Int32) : Prop :=
  ((s0 = 0 → wp_X2_bandOf x2 x14 (fun r8 => wp_X2_bandOf x12 x14 (fun r9 => wp_X0_put_231 n K ub x1 x2 x3 x4 x6 x7 x8 x9 x11 x12 x13 x14 x15 (((255 - x9) * r8) + (x9 * r9))))) ∧
  (¬ s0 = 0 → wp_X0_put_231 n K ub x1 x2 x3 x4 x6 x7 x8 x9 x11 x12 x13 x14 x15 (255 * x15)))
def wp_X0_put_160 (n : Nat) (KX : (Nat → Nat → Int32) → Int32 → Prop) (x1 : Int32) (x2 : Int32) (x3 : Int32) (x4 : Int32) (x6 : Int32) (x7 : Int32) (x8 : Int32) (x9 : Int32) (x11 : Int32) (x12 : Int32) : Nat → (Nat → Nat → Int32) → Int32 → Int32 → Prop
  | 0, _, _, _ => False
  | N160 + 1, ub, x13, x14 =>
    ((3 ≤ x14 → KX ub x13) ∧
  (¬ 3 ≤ x14 → wp_X2_bandOf x8 x14 (fun r7 => ((¬ ((x6 >>> (x14 &&& 31)) &&& 1) = 1 → wp_X0_put_191 n (wp_X0_put_160 n KX x1 x2 x3 x4 x6 x7 x8 x9 x11 x12 N160) ub x1 x2 x3 x4 x6 x7 x8 x9 x11 x12 x13 x14 r7 0) ∧
  (((x6 >>> (x14 &&& 31)) &&& 1) = 1 → wp_X0_put_191 n (wp_X0_put_160 n KX x1 x2 x3 x4 x6 x7 x8 x9 x11 x12 N160) ub x1 x2 x3 x4 x6 x7 x8 x9 x11 x12 x13 x14 r7 1)))))
def wp_X0_put_73 (n : Nat) (P : (Nat → Nat → Int32) → Prop) (ub : Nat → Nat → Int32) (x1 : Int32) (x2 : Int32) (x3 : Int32) (x4 : Int32) (x5 : Int32) (x6 : Int32) (x7 : Int32) (x8 : Int32) (x9 : Int32) (s0 : Int32) : Prop :=
  (vp_in x1 n ∧ (vp_in x1 n ∧ ∀ ub2 : Nat → Nat → Int32, ub2 = st ub 4 x1.toNatClampNeg ((((((255 - x3) * (ub 4 x1.toNatClampNeg)) + ((x3 - x4) * s0)) + (255 * x4)) + 127) / 255) → (vp_in x1 n ∧ wp_X2_union (ub2 5 x1.toNatClampNeg) x3 (fun r3 => (vp_in x1 n ∧ ∀ ub4 : Nat → Nat → Int32, ub4 = st ub2 5 x1.toNatClampNeg r3 → wp_X0_wholeAlpha n ub4 x1 (fun r5 => ((¬ r5 = 0 → wp_X1_ofColours x5 x8 x2 (fun r6 => (∃ N160, wp_X0_put_160 n (fun (ub18 : Nat → Nat → Int32) (y19 : Int32) => (vp_in x1 n ∧ ∀ ub20 : Nat → Nat → Int32, ub20 = st ub18 3 x1.toNatClampNeg y19 → P ub20)) x1 x2 x3 x4 x6 x7 x8 x9 r5 r6 N160 ub4 0 0))) ∧
  (r5 = 0 → P ub4))))))))
def wp_X0_put_54 (n : Nat) (P : (Nat → Nat → Int32) → Prop) (ub : Nat → Nat → Int32) (x1 : Int32) (x2 : Int32) (x3 : Int32) (x4 : Int32) (x5 : Int32) (x6 : Int32) (x7 : Int32) (x8 : Int32) (s0 : Int32) : Prop :=
  (((ub 0 1) = 0 → (vp_in x1 n ∧ wp_X0_put_73 n P ub x1 x2 x3 x4 x5 x6 x7 x8 s0 (ub 4 x1.toNatClampNeg))) ∧
  (¬ (ub 0 1) = 0 → wp_X0_put_73 n P ub x1 x2 x3 x4 x5 x6 x7 x8 s0 0))
def wp_X0_put_34 (n : Nat) (P : (Nat → Nat → Int32) → Prop) (ub : Nat → Nat → Int32) (x1 : Int32) (x2 : Int32) (x3 : Int32) (x4 : Int32) (x5 : Int32) (x6 : Int32) (x7 : Int32) (s0 : Int32) : Prop :=
  (((ub 0 1) = 0 → wp_X0_put_54 n P ub x1 x2 x3 x4 x5 x6 x7 s0 x7) ∧
  (¬ (ub 0 1) = 0 → (vp_in x1 n ∧ wp_X0_put_54 n P ub x1 x2 x3 x4 x5 x6 x7 s0 (ub 2 x1.toNatClampNeg))))
def wp_X0_put (n : Nat) (ub : Nat → Nat → Int32) (p0 : Int32) (p1 : Int32) (p2 : Int32) (p3 : Int32) (p4 : Int32) (p5 : Int32) (P : (Nat → Nat → Int32) → Prop) : Prop :=
  ((¬ p2 = 0 → wp_X0_wholeAlpha n ub p0 (fun r1 => (((ub 0 1) = 0 → (vp_in p0 n ∧ wp_X0_put_34 n P ub p0 p1 p2 p3 p4 p5 r1 (ub 3 p0.toNatClampNeg))) ∧
  (¬ (ub 0 1) = 0 → (vp_in p0 n ∧ wp_X0_put_34 n P ub p0 p1 p2 p3 p4 p5 r1 (ub 1 p0.toNatClampNeg)))))) ∧
  (p2 = 0 → P ub))
abbrev rm_X0_put : Room := { frames := 5, cells := 0, slots := 0, locals := 115 }
set_option maxHeartbeats 4000000 in
set_option maxRecDepth 100000 in
theorem c_X0_put (l : Launch) (dC : Nat → ClassId) (dI : Nat → Nat → Nat) (cA : Nat → ClassId) (g : Nat → Nat) (n : Nat) (sz : Nat) (ub : Nat → Nat → Int32) (p0 : Int32) (p1 : Int32) (p2 : Int32) (p3 : Int32) (p4 : Int32) (p5 : Int32) (P : (Nat → Nat → Int32) → Prop) (hw : wp_X0_put n ub p0 p1 p2 p3 p4 p5 P) : Met l yX0_put wX0_put rm_X0_put (xP2 dC dI cA (w_ly g cA n ub) sz [.ref (g 0), .int p0, .int p1, .int p2, .int p3, .int p4, .int p5]) (va_Qv (fun (u : (Nat → Nat → Int32)) => P u) (xB dC dI cA (fun u : (Nat → Nat → Int32) => w_ly g cA n u) (va_A (w_ly g cA n ub) sz)) (va_A (w_ly g cA n ub) sz)) 0 0 (va_A (w_ly g cA n ub) sz) := by
  refine Met.ofW (cc := cX0_put) (maxL := 19) (ret := none) (by decide) rfl ?_
  intro p e s m args below meth c s₁ B hml hv
  obtain ⟨hargs, hsz, hP, hK, hD0⟩ := hv
  have hx := B.exec
  have hb := B.bytes
  have hr := B.returns
  have hts := atoms_spec (ws := wX0_put) B.pre
  have hown : s.vm.findClass RX0 = some m.cls := findClass_of_methodNamed B.named
  have hlocks := B.notSynchronized
  subst hsz
  have hD := hD0.self (sz := s.heap.size)
  generalize hAe : va_A (w_ly g cA n ub) s.heap.size = A at hD ⊢
  have hA : ∀ q : Nat, s.heap.size ≤ q → A q := fun q h => by rw [← hAe]; exact Or.inr h
  have hS : va_S A s.heap s.heap [] := va_S.rf
  clear hAe hD0
  have J231 : ∀ (K : (Nat → Nat → Int32) → Int32 → Int32 → Prop) (ub : Nat → Nat → Int32) (x1 : Int32) (x2 : Int32) (x3 : Int32) (x4 : Int32) (x6 : Int32) (x7 : Int32) (x8 : Int32) (x9 : Int32) (x11 : Int32) (x12 : Int32) (x13 : Int32) (x14 : Int32) (x15 : Int32) (s0 : Int32), wp_X0_put_231 n K ub x1 x2 x3 x4 x6 x7 x8 x9 x11 x12 x13 x14 x15 s0 → (∀ (ub : Nat → Nat → Int32) (x13 : Int32) (x14 : Int32), K ub x13 x14 → ∀ (H : Heap) (locs : List Loc) (ls : Array Slot), va_P (dC, dI) vwCl (w_ly g cA n ub) H → va_D A (w_ly g cA n ub) → va_S A s.heap H locs → lv_has ls 19 [(0, .ref (g 0)), (1, .int x1), (2, .int x2), (3, .int x3), (4, .int x4), (6, .int x6), (7, .int x7), (8, .int x8), (9, .int x9), (11, .int x11), (12, .int x12), (13, .int x13), (14, .int x14)] → W p l e (headSpec wX0_put rm_X0_put).room s m args below meth c H locs 0 0 (MQ below (va_Qv (fun (u : (Nat → Nat → Int32)) => P u) (xB dC dI cA (fun u : (Nat → Nat → Int32) => w_ly g cA n u) A) A) args s 0 0 A) (F0 m 160 ls [])) → ∀ (H : Heap) (locs : List Loc) (ls : Array Slot), va_P (dC, dI) vwCl (w_ly g cA n ub) H → va_D A (w_ly g cA n ub) → va_S A s.heap H locs → lv_has ls 19 [(0, .ref (g 0)), (1, .int x1), (2, .int x2), (3, .int x3), (4, .int x4), (6, .int x6), (7, .int x7), (8, .int x8), (9, .int x9), (11, .int x11), (12, .int x12), (13, .int x13), (14, .int x14), (15, .int x15)] → W p l e (headSpec wX0_put rm_X0_put).room s m args below meth c H locs 0 0 (MQ below (va_Qv (fun (u : (Nat → Nat → Int32)) => P u) (xB dC dI cA (fun u : (Nat → Nat → Int32) => w_ly g cA n u) A) A) args s 0 0 A) (F0 m 231 ls [.int s0]) := by
    intro K ub x1 x2 x3 x4 x6 x7 x8 x9 x11 x12 x13 x14 x15 s0 hw hk H locs ls hP hD hS hl
    refine lv_istore (lv' := [(17, .int s0), (0, .ref (g 0)), (1, .int x1), (2, .int x2), (3, .int x3), (4, .int x4), (6, .int x6), (7, .int x7), (8, .int x8), (9, .int x9), (11, .int x11), (12, .int x12), (13, .int x13), (14, .int x14), (15, .int x15)]) hx hb dX0_put_231 hl (by decide) rfl (fun ls hl => ?_)
    refine lv_sipush (v := 255) hx hb dX0_put_233 (by decide) ?_
    refine lv_iload_n hx hb dX0_put_236 rfl (lv_at hl 4 rfl) ?_
    refine lv_isub hx hb dX0_put_237 ?_
    refine lv_iload hx hb dX0_put_238 (lv_at hl 7 rfl) ?_
    refine lv_imul hx hb dX0_put_240 ?_
    refine lv_aload_n hx hb dX0_put_241 rfl (lv_at hl 1 rfl) ?_
    refine va_get (D := (dC, dI)) (ci := 1) (v := .ref (g 3)) (C := RX0) (T := TX0) (N := 7) hx hb hts iX0 hown hK hP 0 rfl rfl 3 (by decide) (hts _ (xm m59)) (fun _ h9 => h9) rfl dX0_put_242 ?_
    refine lv_iload_n hx hb dX0_put_245 rfl (lv_at hl 2 rfl) ?_
    refine va_iald hx hb hK hP 3 0 rfl rfl (And.left hw) dX0_put_246 ?_
    replace hw := And.right hw
    refine lv_iload hx hb dX0_put_247 (lv_at hl 13 rfl) ?_
    refine vp_callSi (va_Run.run (va_runS (As := [.int (ub 3 x1.toNatClampNeg), .int x14]) (rest := [.int ((255 - x3) * x7)]) ⟨hx, hb, hml, hown, hts⟩ (c_X2_bandOf l (ub 3 x1.toNatClampNeg) x14 _ hw) (gcS 2 hts m320 m318 m319 m30 rfl rfl (by decide +kernel) ⟨Nat.le_of_ble_eq_true rfl, Nat.le_of_ble_eq_true rfl⟩) ⟨xbl0, fun U hU hW => ⟨rfl, trivial⟩⟩ rfl rfl hl.1 rfl (lv_room (Nat.le_of_ble_eq_true rfl)) dX0_put_249 ⟨Nat.le_of_ble_eq_true rfl, Nat.le_of_ble_eq_true rfl⟩)) (fun r10 hw => ?_)
    refine lv_imul hx hb dX0_put_252 ?_
    refine lv_iload_n hx hb dX0_put_253 rfl (lv_at hl 4 rfl) ?_
    refine lv_iload hx hb dX0_put_254 (lv_at hl 5 rfl) ?_
    refine lv_isub hx hb dX0_put_256 ?_
    refine lv_iload hx hb dX0_put_257 (lv_at hl 9 rfl) ?_
    refine lv_imul hx hb dX0_put_259 ?_
    refine lv_iload hx hb dX0_put_260 (lv_at hl 14 rfl) ?_
    refine lv_imul hx hb dX0_put_262 ?_
    refine lv_iadd hx hb dX0_put_263 ?_
    refine lv_iload hx hb dX0_put_264 (lv_at hl 5 rfl) ?_
    refine lv_iload hx hb dX0_put_266 (lv_at hl 0 rfl) ?_
    refine lv_imul hx hb dX0_put_268 ?_
    refine lv_iadd hx hb dX0_put_269 ?_
    refine lv_topi (fun v11 e_v11 => ?_)
    replace hw := hw v11 e_v11
    refine lv_istore (lv' := [(18, .int v11), (17, .int s0), (0, .ref (g 0)), (1, .int x1), (2, .int x2), (3, .int x3), (4, .int x4), (6, .int x6), (7, .int x7), (8, .int x8), (9, .int x9), (11, .int x11), (12, .int x12), (13, .int x13), (14, .int x14), (15, .int x15)]) hx hb dX0_put_270 hl (by decide) rfl (fun ls hl => ?_)
    refine lv_iload hx hb dX0_put_272 (lv_at hl 13 rfl) ?_
    refine lv_iload hx hb dX0_put_274 (lv_at hl 0 rfl) ?_
    refine lv_sipush (v := 255) hx hb dX0_put_276 (by decide) ?_
    refine lv_iload hx hb dX0_put_279 (lv_at hl 11 rfl) ?_
    refine lv_imul hx hb dX0_put_281 ?_
    refine vp_callSi (va_Run.run (va_runS (As := [.int v11, .int (255 * x11)]) (rest := [.int x13]) ⟨hx, hb, hml, hown, hts⟩ (c_X2_nearest l v11 (255 * x11) _ hw) (gcS 2 hts m395 m393 m394 m30 rfl rfl (by decide +kernel) ⟨Nat.le_of_ble_eq_true rfl, Nat.le_of_ble_eq_true rfl⟩) ⟨xbl0, fun U hU hW => ⟨rfl, trivial⟩⟩ rfl rfl hl.1 rfl (lv_room (Nat.le_of_ble_eq_true rfl)) dX0_put_282 ⟨Nat.le_of_ble_eq_true rfl, Nat.le_of_ble_eq_true rfl⟩)) (fun r12 hw => ?_)
    refine lv_bipush (v := 8) hx hb dX0_put_285 (by decide) ?_
    refine lv_iload hx hb dX0_put_287 (lv_at hl 14 rfl) ?_
    refine lv_imul hx hb dX0_put_289 ?_
    refine lv_ishl hx hb dX0_put_290 ?_
    refine lv_ior hx hb dX0_put_291 ?_
    refine lv_topi (fun v13 e_v13 => ?_)
    replace hw := hw v13 e_v13
    refine lv_istore (lv' := [(13, .int v13), (18, .int v11), (17, .int s0), (0, .ref (g 0)), (1, .int x1), (2, .int x2), (3, .int x3), (4, .int x4), (6, .int x6), (7, .int x7), (8, .int x8), (9, .int x9), (11, .int x11), (12, .int x12), (14, .int x14), (15, .int x15)]) hx hb dX0_put_292 hl (by decide) rfl (fun ls hl => ?_)
    obtain ⟨v14, e_v14⟩ : ∃ y : Int32, y = x14 + 1 := ⟨_, rfl⟩
    replace hw := hw v14 e_v14
    refine lv_iinc (v := v14) (lv' := [(14, .int v14), (13, .int v13), (18, .int v11), (17, .int s0), (0, .ref (g 0)), (1, .int x1), (2, .int x2), (3, .int x3), (4, .int x4), (6, .int x6), (7, .int x7), (8, .int x8), (9, .int x9), (11, .int x11), (12, .int x12), (15, .int x15)]) hx hb dX0_put_294 hl (k := 14) rfl (by rw [e_v14]; rfl) (by decide) rfl (fun ls hl => ?_)
    refine lv_goto (tgt := 160) hx hb dX0_put_297 (by decide) ?_
    exact hk _ _ _ hw _ _ _ hP hD hS (lv_sub hl [4, 5, 6, 7, 8, 9, 10, 11, 12, 13, 14, 1, 0] rfl)
  have J191 : ∀ (K : (Nat → Nat → Int32) → Int32 → Int32 → Prop) (ub : Nat → Nat → Int32) (x1 : Int32) (x2 : Int32) (x3 : Int32) (x4 : Int32) (x6 : Int32) (x7 : Int32) (x8 : Int32) (x9 : Int32) (x11 : Int32) (x12 : Int32) (x13 : Int32) (x14 : Int32) (x15 : Int32) (s0 : Int32), wp_X0_put_191 n K ub x1 x2 x3 x4 x6 x7 x8 x9 x11 x12 x13 x14 x15 s0 → (∀ (ub : Nat → Nat → Int32) (x13 : Int32) (x14 : Int32), K ub x13 x14 → ∀ (H : Heap) (locs : List Loc) (ls : Array Slot), va_P (dC, dI) vwCl (w_ly g cA n ub) H → va_D A (w_ly g cA n ub) → va_S A s.heap H locs → lv_has ls 19 [(0, .ref (g 0)), (1, .int x1), (2, .int x2), (3, .int x3), (4, .int x4), (6, .int x6), (7, .int x7), (8, .int x8), (9, .int x9), (11, .int x11), (12, .int x12), (13, .int x13), (14, .int x14)] → W p l e (headSpec wX0_put rm_X0_put).room s m args below meth c H locs 0 0 (MQ below (va_Qv (fun (u : (Nat → Nat → Int32)) => P u) (xB dC dI cA (fun u : (Nat → Nat → Int32) => w_ly g cA n u) A) A) args s 0 0 A) (F0 m 160 ls [])) → ∀ (H : Heap) (locs : List Loc) (ls : Array Slot), va_P (dC, dI) vwCl (w_ly g cA n ub) H → va_D A (w_ly g cA n ub) → va_S A s.heap H locs → lv_has ls 19 [(0, .ref (g 0)), (1, .int x1), (2, .int x2), (3, .int x3), (4, .int x4), (6, .int x6), (7, .int x7), (8, .int x8), (9, .int x9), (11, .int x11), (12, .int x12), (13, .int x13), (14, .int x14), (15, .int x15)] → W p l e (headSpec wX0_put rm_X0_put).room s m args below meth c H locs 0 0 (MQ below (va_Qv (fun (u : (Nat → Nat → Int32)) => P u) (xB dC dI cA (fun u : (Nat → Nat → Int32) => w_ly g cA n u) A) A) args s 0 0 A) (F0 m 191 ls [.int s0]) := by
    intro K ub x1 x2 x3 x4 x6 x7 x8 x9 x11 x12 x13 x14 x15 s0 hw hk H locs ls hP hD hS hl
    refine lv_istore (lv' := [(16, .int s0), (0, .ref (g 0)), (1, .int x1), (2, .int x2), (3, .int x3), (4, .int x4), (6, .int x6), (7, .int x7), (8, .int x8), (9, .int x9), (11, .int x11), (12, .int x12), (13, .int x13), (14, .int x14), (15, .int x15)]) hx hb dX0_put_191 hl (by decide) rfl (fun ls hl => ?_)
    refine lv_iload hx hb dX0_put_193 (lv_at hl 0 rfl) ?_
    refine lv_if_eq (tgt := 207) hx hb dX0_put_195 (by decide) (fun c15 => ?_) (fun c15 => ?_)
    · replace hw := And.left hw c15
      refine lv_sipush (v := 255) hx hb dX0_put_207 (by decide) ?_
      refine lv_iload hx hb dX0_put_210 (lv_at hl 9 rfl) ?_
      refine lv_isub hx hb dX0_put_212 ?_
      refine lv_iload_n hx hb dX0_put_213 rfl (lv_at hl 3 rfl) ?_
      refine lv_iload hx hb dX0_put_214 (lv_at hl 13 rfl) ?_
      refine vp_callSi (va_Run.run (va_runS (As := [.int x2, .int x14]) (rest := [.int (255 - x9)]) ⟨hx, hb, hml, hown, hts⟩ (c_X2_bandOf l x2 x14 _ hw) (gcS 2 hts m320 m318 m319 m30 rfl rfl (by decide +kernel) ⟨Nat.le_of_ble_eq_true rfl, Nat.le_of_ble_eq_true rfl⟩) ⟨xbl0, fun U hU hW => ⟨rfl, trivial⟩⟩ rfl rfl hl.1 rfl (lv_room (Nat.le_of_ble_eq_true rfl)) dX0_put_216 ⟨Nat.le_of_ble_eq_true rfl, Nat.le_of_ble_eq_true rfl⟩)) (fun r8 hw => ?_)
      refine lv_imul hx hb dX0_put_219 ?_
      refine lv_iload hx hb dX0_put_220 (lv_at hl 9 rfl) ?_
      refine lv_iload hx hb dX0_put_222 (lv_at hl 11 rfl) ?_
      refine lv_iload hx hb dX0_put_224 (lv_at hl 13 rfl) ?_
      refine vp_callSi (va_Run.run (va_runS (As := [.int x12, .int x14]) (rest := [.int x9, .int ((255 - x9) * r8)]) ⟨hx, hb, hml, hown, hts⟩ (c_X2_bandOf l x12 x14 _ hw) (gcS 2 hts m320 m318 m319 m30 rfl rfl (by decide +kernel) ⟨Nat.le_of_ble_eq_true rfl, Nat.le_of_ble_eq_true rfl⟩) ⟨xbl0, fun U hU hW => ⟨rfl, trivial⟩⟩ rfl rfl hl.1 rfl (lv_room (Nat.le_of_ble_eq_true rfl)) dX0_put_226 ⟨Nat.le_of_ble_eq_true rfl, Nat.le_of_ble_eq_true rfl⟩)) (fun r9 hw => ?_)
      refine lv_imul hx hb dX0_put_229 ?_
      refine lv_iadd hx hb dX0_put_230 ?_
      exact J231 _ _ _ _ _ _ _ _ _ _ _ _ _ _ _ _ hw hk _ _ _ hP hD hS (lv_sub hl [1, 2, 3, 4, 5, 6, 7, 8, 9, 10, 11, 12, 13, 14] rfl)
    · replace hw := And.right hw c15
      refine lv_sipush (v := 255) hx hb dX0_put_198 (by decide) ?_
      refine lv_iload hx hb dX0_put_201 (lv_at hl 14 rfl) ?_
      refine lv_imul hx hb dX0_put_203 ?_
      refine lv_goto (tgt := 231) hx hb dX0_put_204 (by decide) ?_
      exact J231 _ _ _ _ _ _ _ _ _ _ _ _ _ _ _ _ hw hk _ _ _ hP hD hS (lv_sub hl [1, 2, 3, 4, 5, 6, 7, 8, 9, 10, 11, 12, 13, 14] rfl)
  have L160 : ∀ (KX : (Nat → Nat → Int32) → Int32 → Prop) (x1 : Int32) (x2 : Int32) (x3 : Int32) (x4 : Int32) (x6 : Int32) (x7 : Int32) (x8 : Int32) (x9 : Int32) (x11 : Int32) (x12 : Int32), (∀ (ub : Nat → Nat → Int32) (x13 : Int32), KX ub x13 → ∀ (H : Heap) (locs : List Loc) (ls : Array Slot), va_P (dC, dI) vwCl (w_ly g cA n ub) H → va_D A (w_ly g cA n ub) → va_S A s.heap H locs → lv_has ls 19 [(0, .ref (g 0)), (1, .int x1), (13, .int x13)] → W p l e (headSpec wX0_put rm_X0_put).room s m args below meth c H locs 0 0 (MQ below (va_Qv (fun (u : (Nat → Nat → Int32)) => P u) (xB dC dI cA (fun u : (Nat → Nat → Int32) => w_ly g cA n u) A) A) args s 0 0 A) (F0 m 300 ls [])) → ∀ (N : Nat) (ub : Nat → Nat → Int32) (x13 : Int32) (x14 : Int32), wp_X0_put_160 n KX x1 x2 x3 x4 x6 x7 x8 x9 x11 x12 N ub x13 x14 → ∀ (H : Heap) (locs : List Loc) (ls : Array Slot), va_P (dC, dI) vwCl (w_ly g cA n ub) H → va_D A (w_ly g cA n ub) → va_S A s.heap H locs → lv_has ls 19 [(0, .ref (g 0)), (1, .int x1), (2, .int x2), (3, .int x3), (4, .int x4), (6, .int x6), (7, .int x7), (8, .int x8), (9, .int x9), (11, .int x11), (12, .int x12), (13, .int x13), (14, .int x14)] → W p l e (headSpec wX0_put rm_X0_put).room s m args below meth c H locs 0 0 (MQ below (va_Qv (fun (u : (Nat → Nat → Int32)) => P u) (xB dC dI cA (fun u : (Nat → Nat → Int32) => w_ly g cA n u) A) A) args s 0 0 A) (F0 m 160 ls []) := by
    intro KX x1 x2 x3 x4 x6 x7 x8 x9 x11 x12 hx2 N160
    induction N160 with
    | zero =>
      intro ub x13 x14 hw
      exact False.elim hw
    | succ N160 hk =>
      intro ub x13 x14 hw H locs ls hP hD hS hl
      rw [wp_X0_put_160] at hw
      refine lv_iload hx hb dX0_put_160 (lv_at hl 12 rfl) ?_
      refine lv_iconst (v := 3) hx hb dX0_put_162 (by decide) ?_
      refine lv_icmp_ge (tgt := 300) hx hb dX0_put_163 (by decide) (fun c17 => ?_) (fun c17 => ?_)
      · replace hw := And.left hw c17
        exact hx2 _ _ hw _ _ _ hP hD hS (lv_sub hl [0, 1, 11] rfl)
      · replace hw := And.right hw c17
        refine lv_iload hx hb dX0_put_166 (lv_at hl 7 rfl) ?_
        refine lv_iload hx hb dX0_put_168 (lv_at hl 12 rfl) ?_
        refine vp_callSi (va_Run.run (va_runS (As := [.int x8, .int x14]) (rest := []) ⟨hx, hb, hml, hown, hts⟩ (c_X2_bandOf l x8 x14 _ hw) (gcS 2 hts m320 m318 m319 m30 rfl rfl (by decide +kernel) ⟨Nat.le_of_ble_eq_true rfl, Nat.le_of_ble_eq_true rfl⟩) ⟨xbl0, fun U hU hW => ⟨rfl, trivial⟩⟩ rfl rfl hl.1 rfl (lv_room (Nat.le_of_ble_eq_true rfl)) dX0_put_170 ⟨Nat.le_of_ble_eq_true rfl, Nat.le_of_ble_eq_true rfl⟩)) (fun r7 hw => ?_)
        refine lv_istore (lv' := [(15, .int r7), (0, .ref (g 0)), (1, .int x1), (2, .int x2), (3, .int x3), (4, .int x4), (6, .int x6), (7, .int x7), (8, .int x8), (9, .int x9), (11, .int x11), (12, .int x12), (13, .int x13), (14, .int x14)]) hx hb dX0_put_173 hl (by decide) rfl (fun ls hl => ?_)
        refine lv_iload hx hb dX0_put_175 (lv_at hl 6 rfl) ?_
        refine lv_iload hx hb dX0_put_177 (lv_at hl 13 rfl) ?_
        refine lv_ishr hx hb dX0_put_179 ?_
        refine lv_iconst (v := 1) hx hb dX0_put_180 (by decide) ?_
        refine lv_iand hx hb dX0_put_181 ?_
        refine lv_iconst (v := 1) hx hb dX0_put_182 (by decide) ?_
        refine lv_icmp_ne (tgt := 190) hx hb dX0_put_183 (by decide) (fun c16 => ?_) (fun c16 => ?_)
        · replace hw := And.left hw c16
          refine lv_iconst (v := 0) hx hb dX0_put_190 (by decide) ?_
          exact J191 _ _ _ _ _ _ _ _ _ _ _ _ _ _ _ _ hw hk _ _ _ hP hD hS (lv_sub hl [1, 2, 3, 4, 5, 6, 7, 8, 9, 10, 11, 12, 13, 0] rfl)
        · replace hw := And.right hw c16
          refine lv_iconst (v := 1) hx hb dX0_put_186 (by decide) ?_
          refine lv_goto (tgt := 191) hx hb dX0_put_187 (by decide) ?_
          exact J191 _ _ _ _ _ _ _ _ _ _ _ _ _ _ _ _ hw hk _ _ _ hP hD hS (lv_sub hl [1, 2, 3, 4, 5, 6, 7, 8, 9, 10, 11, 12, 13, 0] rfl)
  have J73 : ∀ (ub : Nat → Nat → Int32) (x1 : Int32) (x2 : Int32) (x3 : Int32) (x4 : Int32) (x5 : Int32) (x6 : Int32) (x7 : Int32) (x8 : Int32) (x9 : Int32) (s0 : Int32), wp_X0_put_73 n P ub x1 x2 x3 x4 x5 x6 x7 x8 x9 s0 → ∀ (H : Heap) (locs : List Loc) (ls : Array Slot), va_P (dC, dI) vwCl (w_ly g cA n ub) H → va_D A (w_ly g cA n ub) → va_S A s.heap H locs → lv_has ls 19 [(0, .ref (g 0)), (1, .int x1), (2, .int x2), (3, .int x3), (4, .int x4), (5, .int x5), (6, .int x6), (7, .int x7), (8, .int x8), (9, .int x9)] → W p l e (headSpec wX0_put rm_X0_put).room s m args below meth c H locs 0 0 (MQ below (va_Qv (fun (u : (Nat → Nat → Int32)) => P u) (xB dC dI cA (fun u : (Nat → Nat → Int32) => w_ly g cA n u) A) A) args s 0 0 A) (F0 m 73 ls [.int s0]) := by
    intro  ub x1 x2 x3 x4 x5 x6 x7 x8 x9 s0 hw H locs ls hP hD hS hl
    refine lv_istore (lv' := [(10, .int s0), (0, .ref (g 0)), (1, .int x1), (2, .int x2), (3, .int x3), (4, .int x4), (5, .int x5), (6, .int x6), (7, .int x7), (8, .int x8), (9, .int x9)]) hx hb dX0_put_73 hl (by decide) rfl (fun ls hl => ?_)
    refine lv_aload_n hx hb dX0_put_75 rfl (lv_at hl 1 rfl) ?_
    refine va_get (D := (dC, dI)) (ci := 1) (v := .ref (g 4)) (C := RX0) (T := TX0) (N := 7) hx hb hts iX0 hown hK hP 0 rfl rfl 4 (by decide) (hts _ (xm m60)) (fun _ h9 => h9) rfl dX0_put_76 ?_
    refine lv_iload_n hx hb dX0_put_79 rfl (lv_at hl 2 rfl) ?_
    refine lv_sipush (v := 255) hx hb dX0_put_80 (by decide) ?_
    refine lv_iload_n hx hb dX0_put_83 rfl (lv_at hl 4 rfl) ?_
    refine lv_isub hx hb dX0_put_84 ?_
    refine lv_aload_n hx hb dX0_put_85 rfl (lv_at hl 1 rfl) ?_
    refine va_get (D := (dC, dI)) (ci := 1) (v := .ref (g 4)) (C := RX0) (T := TX0) (N := 7) hx hb hts iX0 hown hK hP 0 rfl rfl 4 (by decide) (hts _ (xm m60)) (fun _ h9 => h9) rfl dX0_put_86 ?_
    refine lv_iload_n hx hb dX0_put_89 rfl (lv_at hl 2 rfl) ?_
    refine va_iald hx hb hK hP 4 0 rfl rfl (And.left hw) dX0_put_90 ?_
    replace hw := And.right hw
    refine lv_imul hx hb dX0_put_91 ?_
    refine lv_iload_n hx hb dX0_put_92 rfl (lv_at hl 4 rfl) ?_
    refine lv_iload hx hb dX0_put_93 (lv_at hl 5 rfl) ?_
    refine lv_isub hx hb dX0_put_95 ?_
    refine lv_iload hx hb dX0_put_96 (lv_at hl 0 rfl) ?_
    refine lv_imul hx hb dX0_put_98 ?_
    refine lv_iadd hx hb dX0_put_99 ?_
    refine lv_sipush (v := 255) hx hb dX0_put_100 (by decide) ?_
    refine lv_iload hx hb dX0_put_103 (lv_at hl 5 rfl) ?_
    refine lv_imul hx hb dX0_put_105 ?_
    refine lv_iadd hx hb dX0_put_106 ?_
    refine lv_bipush (v := 127) hx hb dX0_put_107 (by decide) ?_
    refine lv_iadd hx hb dX0_put_109 ?_
    refine lv_sipush (v := 255) hx hb dX0_put_110 (by decide) ?_
    refine lv_idiv hx hb dX0_put_113 (by decide) ?_
    obtain ⟨ub2, e_ub2⟩ : ∃ z, z = st ub 4 x1.toNatClampNeg ((((((255 - x3) * (ub 4 x1.toNatClampNeg)) + ((x3 - x4) * s0)) + (255 * x4)) + 127) / 255) := ⟨_, rfl⟩
    refine va_iast hx hb hK hP hD hS 4 0 rfl rfl (And.left hw) dX0_put_114 (fun H locs hP hD hS => ?_)
    replace hw := And.right hw
    replace hw := hw ub2 e_ub2
    have hP : va_P (dC, dI) vwCl (w_ly g cA n ub2) H := by rw [e_ub2]; exact hP
    have hD : va_D A (w_ly g cA n ub2) := by rw [e_ub2]; exact hD
    refine lv_aload_n hx hb dX0_put_115 rfl (lv_at hl 1 rfl) ?_
    refine va_get (D := (dC, dI)) (ci := 1) (v := .ref (g 5)) (C := RX0) (T := TX0) (N := 7) hx hb hts iX0 hown hK hP 0 rfl rfl 5 (by decide) (hts _ (xm m61)) (fun _ h9 => h9) rfl dX0_put_116 ?_
    refine lv_iload_n hx hb dX0_put_119 rfl (lv_at hl 2 rfl) ?_
    refine lv_aload_n hx hb dX0_put_120 rfl (lv_at hl 1 rfl) ?_
    refine va_get (D := (dC, dI)) (ci := 1) (v := .ref (g 5)) (C := RX0) (T := TX0) (N := 7) hx hb hts iX0 hown hK hP 0 rfl rfl 5 (by decide) (hts _ (xm m61)) (fun _ h9 => h9) rfl dX0_put_121 ?_
    refine lv_iload_n hx hb dX0_put_124 rfl (lv_at hl 2 rfl) ?_
    refine va_iald hx hb hK hP 5 0 rfl rfl (And.left hw) dX0_put_125 ?_
    replace hw := And.right hw
    refine lv_iload_n hx hb dX0_put_126 rfl (lv_at hl 4 rfl) ?_
    refine vp_callSi (va_Run.run (va_runS (As := [.int (ub2 5 x1.toNatClampNeg), .int x3]) (rest := [.int x1, .ref (g 5)]) ⟨hx, hb, hml, hown, hts⟩ (c_X2_union l (ub2 5 x1.toNatClampNeg) x3 _ hw) (gcS 2 hts m257 m255 m256 m30 rfl rfl (by decide +kernel) ⟨Nat.le_of_ble_eq_true rfl, Nat.le_of_ble_eq_true rfl⟩) ⟨xbl0, fun U hU hW => ⟨rfl, trivial⟩⟩ rfl rfl hl.1 rfl (lv_room (Nat.le_of_ble_eq_true rfl)) dX0_put_127 ⟨Nat.le_of_ble_eq_true rfl, Nat.le_of_ble_eq_true rfl⟩)) (fun r3 hw => ?_)
    obtain ⟨ub4, e_ub4⟩ : ∃ z, z = st ub2 5 x1.toNatClampNeg r3 := ⟨_, rfl⟩
    refine va_iast hx hb hK hP hD hS 5 0 rfl rfl (And.left hw) dX0_put_130 (fun H locs hP hD hS => ?_)
    replace hw := And.right hw
    replace hw := hw ub4 e_ub4
    have hP : va_P (dC, dI) vwCl (w_ly g cA n ub4) H := by rw [e_ub4]; exact hP
    have hD : va_D A (w_ly g cA n ub4) := by rw [e_ub4]; exact hD
    refine lv_aload_n hx hb dX0_put_131 rfl (lv_at hl 1 rfl) ?_
    refine lv_iload_n hx hb dX0_put_132 rfl (lv_at hl 2 rfl) ?_
    have hPc : va_P (dC, dI) vwCl (w_ly g cA n ub4) _ := hP
    refine vp_callSi (va_Run.run (va_runV (As := [.int x1]) (rest := []) ⟨hx, hb, hml, hown, hts⟩ (c_X0_wholeAlpha l dC dI cA g n ub4 x1 _ hw) (gcV 1 hts m254 m251 m252 m253 m23 rfl rfl (by decide +kernel) ⟨Nat.le_of_ble_eq_true rfl, Nat.le_of_ble_eq_true rfl⟩) ⟨xbl1, va_recv hK hPc (ci := 1) (q0 := 0) rfl rfl, fun U hU hW => ⟨rfl, by rw [hU]; exact hPc, va_K.moved hW.alike hK⟩⟩ rfl rfl hl.1 rfl (lv_room (Nat.le_of_ble_eq_true rfl)) dX0_put_133 ⟨Nat.le_of_ble_eq_true rfl, Nat.le_of_ble_eq_true rfl⟩)) (fun r5 hw => ?_)
    refine lv_istore (lv' := [(11, .int r5), (10, .int s0), (0, .ref (g 0)), (1, .int x1), (2, .int x2), (3, .int x3), (4, .int x4), (5, .int x5), (6, .int x6), (7, .int x7), (8, .int x8), (9, .int x9)]) hx hb dX0_put_136 hl (by decide) rfl (fun ls hl => ?_)
    refine lv_iload hx hb dX0_put_138 (lv_at hl 0 rfl) ?_
    refine lv_if_ne (tgt := 144) hx hb dX0_put_140 (by decide) (fun c21 => ?_) (fun c21 => ?_)
    · replace hw := And.left hw c21
      refine lv_iload hx hb dX0_put_144 (lv_at hl 7 rfl) ?_
      refine lv_iload hx hb dX0_put_146 (lv_at hl 10 rfl) ?_
      refine lv_iload_n hx hb dX0_put_148 rfl (lv_at hl 4 rfl) ?_
      refine vp_callSi (va_Run.run (va_runS (As := [.int x5, .int x8, .int x2]) (rest := []) ⟨hx, hb, hml, hown, hts⟩ (c_X1_ofColours l x5 x8 x2 _ hw) (gcS 3 hts m339 m337 m338 m32 rfl rfl (by decide +kernel) ⟨Nat.le_of_ble_eq_true rfl, Nat.le_of_ble_eq_true rfl⟩) ⟨xbl0, fun U hU hW => ⟨rfl, trivial⟩⟩ rfl rfl hl.1 rfl (lv_room (Nat.le_of_ble_eq_true rfl)) dX0_put_149 ⟨Nat.le_of_ble_eq_true rfl, Nat.le_of_ble_eq_true rfl⟩)) (fun r6 hw => ?_)
      refine lv_istore (lv' := [(12, .int r6), (11, .int r5), (10, .int s0), (0, .ref (g 0)), (1, .int x1), (2, .int x2), (3, .int x3), (4, .int x4), (5, .int x5), (6, .int x6), (7, .int x7), (8, .int x8), (9, .int x9)]) hx hb dX0_put_152 hl (by decide) rfl (fun ls hl => ?_)
      refine lv_iconst (v := 0) hx hb dX0_put_154 (by decide) ?_
      refine lv_istore (lv' := [(13, .int 0), (12, .int r6), (11, .int r5), (10, .int s0), (0, .ref (g 0)), (1, .int x1), (2, .int x2), (3, .int x3), (4, .int x4), (5, .int x5), (6, .int x6), (7, .int x7), (8, .int x8), (9, .int x9)]) hx hb dX0_put_155 hl (by decide) rfl (fun ls hl => ?_)
      refine lv_iconst (v := 0) hx hb dX0_put_157 (by decide) ?_
      refine lv_istore (lv' := [(14, .int 0), (13, .int 0), (12, .int r6), (11, .int r5), (10, .int s0), (0, .ref (g 0)), (1, .int x1), (2, .int x2), (3, .int x3), (4, .int x4), (5, .int x5), (6, .int x6), (7, .int x7), (8, .int x8), (9, .int x9)]) hx hb dX0_put_158 hl (by decide) rfl (fun ls hl => ?_)
      obtain ⟨N160, hw⟩ := hw
      refine L160 _ _ _ _ _ _ _ _ _ _ _ (fun ub18 y19 hw H locs ls hP hD hS hl => ?_) N160 _ _ _ hw _ _ _ hP hD hS (lv_sub hl [5, 6, 7, 8, 9, 11, 12, 13, 14, 3, 2, 1, 0] rfl)
      refine lv_aload_n hx hb dX0_put_300 rfl (lv_at hl 0 rfl) ?_
      refine va_get (D := (dC, dI)) (ci := 1) (v := .ref (g 3)) (C := RX0) (T := TX0) (N := 7) hx hb hts iX0 hown hK hP 0 rfl rfl 3 (by decide) (hts _ (xm m59)) (fun _ h9 => h9) rfl dX0_put_301 ?_
      refine lv_iload_n hx hb dX0_put_304 rfl (lv_at hl 1 rfl) ?_
      refine lv_iload hx hb dX0_put_305 (lv_at hl 2 rfl) ?_
      obtain ⟨ub20, e_ub20⟩ : ∃ z, z = st ub18 3 x1.toNatClampNeg y19 := ⟨_, rfl⟩
      refine va_iast hx hb hK hP hD hS 3 0 rfl rfl (And.left hw) dX0_put_307 (fun H locs hP hD hS => ?_)
      replace hw := And.right hw
      replace hw := hw ub20 e_ub20
      have hP : va_P (dC, dI) vwCl (w_ly g cA n ub20) H := by rw [e_ub20]; exact hP
      have hD : va_D A (w_ly g cA n ub20) := by rw [e_ub20]; exact hD
      exact W.vret hx hb hr (fun t ht hW => ⟨⟨ub20, rfl, hw, by rw [ht]; exact hP, va_K.moved hW.alike hK, hD⟩, hS.F ht⟩) hS.2.2 dX0_put_308
    · replace hw := And.right hw c21
      exact W.vret hx hb hr (fun t ht hW => ⟨⟨ub4, rfl, hw, by rw [ht]; exact hP, va_K.moved hW.alike hK, hD⟩, hS.F ht⟩) hS.2.2 dX0_put_143
  have J54 : ∀ (ub : Nat → Nat → Int32) (x1 : Int32) (x2 : Int32) (x3 : Int32) (x4 : Int32) (x5 : Int32) (x6 : Int32) (x7 : Int32) (x8 : Int32) (s0 : Int32), wp_X0_put_54 n P ub x1 x2 x3 x4 x5 x6 x7 x8 s0 → ∀ (H : Heap) (locs : List Loc) (ls : Array Slot), va_P (dC, dI) vwCl (w_ly g cA n ub) H → va_D A (w_ly g cA n ub) → va_S A s.heap H locs → lv_has ls 19 [(0, .ref (g 0)), (1, .int x1), (2, .int x2), (3, .int x3), (4, .int x4), (5, .int x5), (6, .int x6), (7, .int x7), (8, .int x8)] → W p l e (headSpec wX0_put rm_X0_put).room s m args below meth c H locs 0 0 (MQ below (va_Qv (fun (u : (Nat → Nat → Int32)) => P u) (xB dC dI cA (fun u : (Nat → Nat → Int32) => w_ly g cA n u) A) A) args s 0 0 A) (F0 m 54 ls [.int s0]) := by
    intro  ub x1 x2 x3 x4 x5 x6 x7 x8 s0 hw H locs ls hP hD hS hl
    refine lv_istore (lv' := [(9, .int s0), (0, .ref (g 0)), (1, .int x1), (2, .int x2), (3, .int x3), (4, .int x4), (5, .int x5), (6, .int x6), (7, .int x7), (8, .int x8)]) hx hb dX0_put_54 hl (by decide) rfl (fun ls hl => ?_)
    refine lv_aload_n hx hb dX0_put_56 rfl (lv_at hl 1 rfl) ?_
    refine va_get (D := (dC, dI)) (ci := 1) (v := .int (ub 0 1)) (C := RX0) (T := TX0) (N := 7) hx hb hts iX0 hown hK hP 0 rfl rfl 6 (by decide) (hts _ (xm m62)) (fun _ h9 => h9) rfl dX0_put_57 ?_
    refine lv_if_eq (tgt := 67) hx hb dX0_put_60 (by decide) (fun c22 => ?_) (fun c22 => ?_)
    · replace hw := And.left hw c22
      refine lv_aload_n hx hb dX0_put_67 rfl (lv_at hl 1 rfl) ?_
      refine va_get (D := (dC, dI)) (ci := 1) (v := .ref (g 4)) (C := RX0) (T := TX0) (N := 7) hx hb hts iX0 hown hK hP 0 rfl rfl 4 (by decide) (hts _ (xm m60)) (fun _ h9 => h9) rfl dX0_put_68 ?_
      refine lv_iload_n hx hb dX0_put_71 rfl (lv_at hl 2 rfl) ?_
      refine va_iald hx hb hK hP 4 0 rfl rfl (And.left hw) dX0_put_72 ?_
      replace hw := And.right hw
      exact J73 _ _ _ _ _ _ _ _ _ _ _ hw _ _ _ hP hD hS (lv_sub hl [1, 2, 3, 4, 5, 6, 7, 8, 9, 0] rfl)
    · replace hw := And.right hw c22
      refine lv_iconst (v := 0) hx hb dX0_put_63 (by decide) ?_
      refine lv_goto (tgt := 73) hx hb dX0_put_64 (by decide) ?_
      exact J73 _ _ _ _ _ _ _ _ _ _ _ hw _ _ _ hP hD hS (lv_sub hl [1, 2, 3, 4, 5, 6, 7, 8, 9, 0] rfl)
  have J34 : ∀ (ub : Nat → Nat → Int32) (x1 : Int32) (x2 : Int32) (x3 : Int32) (x4 : Int32) (x5 : Int32) (x6 : Int32) (x7 : Int32) (s0 : Int32), wp_X0_put_34 n P ub x1 x2 x3 x4 x5 x6 x7 s0 → ∀ (H : Heap) (locs : List Loc) (ls : Array Slot), va_P (dC, dI) vwCl (w_ly g cA n ub) H → va_D A (w_ly g cA n ub) → va_S A s.heap H locs → lv_has ls 19 [(0, .ref (g 0)), (1, .int x1), (2, .int x2), (3, .int x3), (4, .int x4), (5, .int x5), (6, .int x6), (7, .int x7)] → W p l e (headSpec wX0_put rm_X0_put).room s m args below meth c H locs 0 0 (MQ below (va_Qv (fun (u : (Nat → Nat → Int32)) => P u) (xB dC dI cA (fun u : (Nat → Nat → Int32) => w_ly g cA n u) A) A) args s 0 0 A) (F0 m 34 ls [.int s0]) := by
    intro  ub x1 x2 x3 x4 x5 x6 x7 s0 hw H locs ls hP hD hS hl
    refine lv_istore (lv' := [(8, .int s0), (0, .ref (g 0)), (1, .int x1), (2, .int x2), (3, .int x3), (4, .int x4), (5, .int x5), (6, .int x6), (7, .int x7)]) hx hb dX0_put_34 hl (by decide) rfl (fun ls hl => ?_)
    refine lv_aload_n hx hb dX0_put_36 rfl (lv_at hl 1 rfl) ?_
    refine va_get (D := (dC, dI)) (ci := 1) (v := .int (ub 0 1)) (C := RX0) (T := TX0) (N := 7) hx hb hts iX0 hown hK hP 0 rfl rfl 6 (by decide) (hts _ (xm m62)) (fun _ h9 => h9) rfl dX0_put_37 ?_
    refine lv_if_eq (tgt := 52) hx hb dX0_put_40 (by decide) (fun c23 => ?_) (fun c23 => ?_)
    · replace hw := And.left hw c23
      refine lv_iload hx hb dX0_put_52 (lv_at hl 8 rfl) ?_
      exact J54 _ _ _ _ _ _ _ _ _ _ hw _ _ _ hP hD hS (lv_sub hl [1, 2, 3, 4, 5, 6, 7, 8, 0] rfl)
    · replace hw := And.right hw c23
      refine lv_aload_n hx hb dX0_put_43 rfl (lv_at hl 1 rfl) ?_
      refine va_get (D := (dC, dI)) (ci := 1) (v := .ref (g 2)) (C := RX0) (T := TX0) (N := 7) hx hb hts iX0 hown hK hP 0 rfl rfl 2 (by decide) (hts _ (xm m58)) (fun _ h9 => h9) rfl dX0_put_44 ?_
      refine lv_iload_n hx hb dX0_put_47 rfl (lv_at hl 2 rfl) ?_
      refine va_iald hx hb hK hP 2 0 rfl rfl (And.left hw) dX0_put_48 ?_
      replace hw := And.right hw
      refine lv_goto (tgt := 54) hx hb dX0_put_49 (by decide) ?_
      exact J54 _ _ _ _ _ _ _ _ _ _ hw _ _ _ hP hD hS (lv_sub hl [1, 2, 3, 4, 5, 6, 7, 8, 0] rfl)
  have hl := lv_entry ([.ref (g 0), .int p0, .int p1, .int p2, .int p3, .int p4, .int p5]) (n := 19) (Nat.le_of_ble_eq_true rfl)
  rw [show entryFrame m args 19 = entryFrame m (([.ref (g 0), .int p0, .int p1, .int p2, .int p3, .int p4, .int p5] : List Value).toArray) 19 from by rw [hargs], lg_entry_eq]
  generalize (lg_sl ([.ref (g 0), .int p0, .int p1, .int p2, .int p3, .int p4, .int p5]) ++ List.replicate (19 - (lg_sl ([.ref (g 0), .int p0, .int p1, .int p2, .int p3, .int p4, .int p5])).length) Slot.unset).toArray = ls at hl ⊢
  have hl : lv_has ls 19 [(0, .ref (g 0)), (1, .int p0), (2, .int p1), (3, .int p2), (4, .int p3), (5, .int p4), (6, .int p5)] := hl
  have hP : va_P (dC, dI) vwCl (w_ly g cA n ub) s.heap := hP
  refine lv_iload_n hx hb dX0_put_0 rfl (lv_at hl 3 rfl) ?_
  refine lv_if_ne (tgt := 5) hx hb dX0_put_1 (by decide) (fun c25 => ?_) (fun c25 => ?_)
  · replace hw := And.left hw c25
    refine lv_aload_n hx hb dX0_put_5 rfl (lv_at hl 0 rfl) ?_
    refine lv_iload_n hx hb dX0_put_6 rfl (lv_at hl 1 rfl) ?_
    have hPc : va_P (dC, dI) vwCl (w_ly g cA n ub) _ := hP
    refine vp_callSi (va_Run.run (va_runV (As := [.int p0]) (rest := []) ⟨hx, hb, hml, hown, hts⟩ (c_X0_wholeAlpha l dC dI cA g n ub p0 _ hw) (gcV 1 hts m254 m251 m252 m253 m23 rfl rfl (by decide +kernel) ⟨Nat.le_of_ble_eq_true rfl, Nat.le_of_ble_eq_true rfl⟩) ⟨xbl1, va_recv hK hPc (ci := 1) (q0 := 0) rfl rfl, fun U hU hW => ⟨rfl, by rw [hU]; exact hPc, va_K.moved hW.alike hK⟩⟩ rfl rfl hl.1 rfl (lv_room (Nat.le_of_ble_eq_true rfl)) dX0_put_7 ⟨Nat.le_of_ble_eq_true rfl, Nat.le_of_ble_eq_true rfl⟩)) (fun r1 hw => ?_)
    refine lv_istore (lv' := [(7, .int r1), (0, .ref (g 0)), (1, .int p0), (2, .int p1), (3, .int p2), (4, .int p3), (5, .int p4), (6, .int p5)]) hx hb dX0_put_10 hl (by decide) rfl (fun ls hl => ?_)
    refine lv_aload_n hx hb dX0_put_12 rfl (lv_at hl 1 rfl) ?_
    refine va_get (D := (dC, dI)) (ci := 1) (v := .int (ub 0 1)) (C := RX0) (T := TX0) (N := 7) hx hb hts iX0 hown hK hP 0 rfl rfl 6 (by decide) (hts _ (xm m62)) (fun _ h9 => h9) rfl dX0_put_13 ?_
    refine lv_if_eq (tgt := 28) hx hb dX0_put_16 (by decide) (fun c24 => ?_) (fun c24 => ?_)
    · replace hw := And.left hw c24
      refine lv_aload_n hx hb dX0_put_28 rfl (lv_at hl 1 rfl) ?_
      refine va_get (D := (dC, dI)) (ci := 1) (v := .ref (g 3)) (C := RX0) (T := TX0) (N := 7) hx hb hts iX0 hown hK hP 0 rfl rfl 3 (by decide) (hts _ (xm m59)) (fun _ h9 => h9) rfl dX0_put_29 ?_
      refine lv_iload_n hx hb dX0_put_32 rfl (lv_at hl 2 rfl) ?_
      refine va_iald hx hb hK hP 3 0 rfl rfl (And.left hw) dX0_put_33 ?_
      replace hw := And.right hw
      exact J34 _ _ _ _ _ _ _ _ _ hw _ _ _ hP hD hS (lv_sub hl [1, 2, 3, 4, 5, 6, 7, 0] rfl)
    · replace hw := And.right hw c24
      refine lv_aload_n hx hb dX0_put_19 rfl (lv_at hl 1 rfl) ?_
      refine va_get (D := (dC, dI)) (ci := 1) (v := .ref (g 1)) (C := RX0) (T := TX0) (N := 7) hx hb hts iX0 hown hK hP 0 rfl rfl 1 (by decide) (hts _ (xm m57)) (fun _ h9 => h9) rfl dX0_put_20 ?_
      refine lv_iload_n hx hb dX0_put_23 rfl (lv_at hl 2 rfl) ?_
      refine va_iald hx hb hK hP 1 0 rfl rfl (And.left hw) dX0_put_24 ?_
      replace hw := And.right hw
      refine lv_goto (tgt := 34) hx hb dX0_put_25 (by decide) ?_
      exact J34 _ _ _ _ _ _ _ _ _ hw _ _ _ hP hD hS (lv_sub hl [1, 2, 3, 4, 5, 6, 7, 0] rfl)
  · replace hw := And.right hw c25
    exact W.vret hx hb hr (fun t ht hW => ⟨⟨ub, rfl, hw, by rw [ht]; exact hP, va_K.moved hW.alike hK, hD⟩, hS.F ht⟩) hS.2.2 dX0_put_4
