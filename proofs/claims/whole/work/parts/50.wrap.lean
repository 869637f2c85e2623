theorem m129 : Cond.classLink RL 13 "java/lang/IllegalArgumentException" ∈ gG := gG_mk (i := 129) (by decide +kernel) (by decide +kernel)
theorem m130 : Cond.methodLink RL 7 yX3_told ∈ gG := gG_mk (i := 130) (by decide +kernel) (by decide +kernel)
theorem m131 : Cond.instanceMethod yX3_told ∈ gG := gG_mk (i := 131) (by decide +kernel) (by decide +kernel)
theorem m132 : Cond.selects RX3 yX3_told yX3_told ∈ gG := gG_mk (i := 132) (by decide +kernel) (by decide +kernel)
theorem m133 : Cond.code yX3_told cX3_told 2 (some .int) ∈ gG := gG_mk (i := 133) (by decide +kernel) (by decide +kernel)
theorem m206 : Cond.methodLink RL 15 yX3_bound ∈ gG := gG_mk (i := 206) (by decide +kernel) (by decide +kernel)
theorem m207 : Cond.instanceMethod yX3_bound ∈ gG := gG_mk (i := 207) (by decide +kernel) (by decide +kernel)
theorem m208 : Cond.selects RX3 yX3_bound yX3_bound ∈ gG := gG_mk (i := 208) (by decide +kernel) (by decide +kernel)
theorem m209 : Cond.code yX3_bound cX3_bound 2 none ∈ gG := gG_mk (i := 209) (by decide +kernel) (by decide +kernel)
theorem m214 : Cond.classLink RL 23 "java/lang/UnsupportedOperationException" ∈ gG := gG_mk (i := 214) (by decide +kernel) (by decide +kernel)
theorem m215 : Cond.methodLink RL 19 yX3_group ∈ gG := gG_mk (i := 215) (by decide +kernel) (by decide +kernel)
theorem m216 : Cond.instanceMethod yX3_group ∈ gG := gG_mk (i := 216) (by decide +kernel) (by decide +kernel)
theorem m217 : Cond.selects RX3 yX3_group yX3_group ∈ gG := gG_mk (i := 217) (by decide +kernel) (by decide +kernel)
theorem m218 : Cond.code yX3_group cX3_group 4 (some .int) ∈ gG := gG_mk (i := 218) (by decide +kernel) (by decide +kernel)
theorem m264 : Cond.classLink RL 29 "java/lang/IllegalStateException" ∈ gG := gG_mk (i := 264) (by decide +kernel) (by decide +kernel)
theorem m265 : Cond.methodLink RL 25 yX3_end ∈ gG := gG_mk (i := 265) (by decide +kernel) (by decide +kernel)
theorem m266 : Cond.instanceMethod yX3_end ∈ gG := gG_mk (i := 266) (by decide +kernel) (by decide +kernel)
theorem m267 : Cond.selects RX3 yX3_end yX3_end ∈ gG := gG_mk (i := 267) (by decide +kernel) (by decide +kernel)
theorem m268 : Cond.code yX3_end cX3_end 7 (some .int) ∈ gG := gG_mk (i := 268) (by decide +kernel) (by decide +kernel)
theorem m399 : Cond.methodLink RL 31 yX3_mask ∈ gG := gG_mk (i := 399) (by decide +kernel) (by decide +kernel)
theorem m400 : Cond.instanceMethod yX3_mask ∈ gG := gG_mk (i := 400) (by decide +kernel) (by decide +kernel)
theorem m401 : Cond.selects RX3 yX3_mask yX3_mask ∈ gG := gG_mk (i := 401) (by decide +kernel) (by decide +kernel)
theorem m402 : Cond.code yX3_mask cX3_mask 6 (some .int) ∈ gG := gG_mk (i := 402) (by decide +kernel) (by decide +kernel)
theorem m414 : Cond.classLink RL 39 "java/lang/ArrayIndexOutOfBoundsException" ∈ gG := gG_mk (i := 414) (by decide +kernel) (by decide +kernel)
theorem m415 : Cond.methodLink RL 35 yX3_colour ∈ gG := gG_mk (i := 415) (by decide +kernel) (by decide +kernel)
theorem m416 : Cond.instanceMethod yX3_colour ∈ gG := gG_mk (i := 416) (by decide +kernel) (by decide +kernel)
theorem m417 : Cond.selects RX3 yX3_colour yX3_colour ∈ gG := gG_mk (i := 417) (by decide +kernel) (by decide +kernel)
theorem m418 : Cond.code yX3_colour cX3_colour 3 none ∈ gG := gG_mk (i := 418) (by decide +kernel) (by decide +kernel)
theorem m446 : Cond.methodLink RL 41 yX3_stays ∈ gG := gG_mk (i := 446) (by decide +kernel) (by decide +kernel)
theorem m447 : Cond.instanceMethod yX3_stays ∈ gG := gG_mk (i := 447) (by decide +kernel) (by decide +kernel)
theorem m448 : Cond.selects RX3 yX3_stays yX3_stays ∈ gG := gG_mk (i := 448) (by decide +kernel) (by decide +kernel)
theorem m449 : Cond.code yX3_stays cX3_stays 4 none ∈ gG := gG_mk (i := 449) (by decide +kernel) (by decide +kernel)
theorem m453 : Cond.methodLink RL 45 yX3_cover ∈ gG := gG_mk (i := 453) (by decide +kernel) (by decide +kernel)
theorem m454 : Cond.instanceMethod yX3_cover ∈ gG := gG_mk (i := 454) (by decide +kernel) (by decide +kernel)
theorem m455 : Cond.selects RX3 yX3_cover yX3_cover ∈ gG := gG_mk (i := 455) (by decide +kernel) (by decide +kernel)
theorem m456 : Cond.code yX3_cover cX3_cover 4 none ∈ gG := gG_mk (i := 456) (by decide +kernel) (by decide +kernel)
theorem m465 : Cond.methodLink RL 49 yX3_fill ∈ gG := gG_mk (i := 465) (by decide +kernel) (by decide +kernel)
theorem m466 : Cond.instanceMethod yX3_fill ∈ gG := gG_mk (i := 466) (by decide +kernel) (by decide +kernel)
theorem m467 : Cond.selects RX3 yX3_fill yX3_fill ∈ gG := gG_mk (i := 467) (by decide +kernel) (by decide +kernel)
theorem m468 : Cond.code yX3_fill cX3_fill 10 none ∈ gG := gG_mk (i := 468) (by decide +kernel) (by decide +kernel)
theorem m472 : Cond.methodLink RL 53 yX3_mark ∈ gG := gG_mk (i := 472) (by decide +kernel) (by decide +kernel)
theorem m473 : Cond.instanceMethod yX3_mark ∈ gG := gG_mk (i := 473) (by decide +kernel) (by decide +kernel)
theorem m474 : Cond.selects RX3 yX3_mark yX3_mark ∈ gG := gG_mk (i := 474) (by decide +kernel) (by decide +kernel)
theorem m475 : Cond.code yX3_mark cX3_mark 9 (some .int) ∈ gG := gG_mk (i := 475) (by decide +kernel) (by decide +kernel)
theorem m479 : Cond.methodLink RL 57 yX3_point ∈ gG := gG_mk (i := 479) (by decide +kernel) (by decide +kernel)
theorem m480 : Cond.instanceMethod yX3_point ∈ gG := gG_mk (i := 480) (by decide +kernel) (by decide +kernel)
theorem m481 : Cond.selects RX3 yX3_point yX3_point ∈ gG := gG_mk (i := 481) (by decide +kernel) (by decide +kernel)
theorem m482 : Cond.code yX3_point cX3_point 4 (some .int) ∈ gG := gG_mk (i := 482) (by decide +kernel) (by decide +kernel)
theorem m488 : Cond.methodLink RL 60 yX3_alpha ∈ gG := gG_mk (i := 488) (by decide +kernel) (by decide +kernel)
theorem m489 : Cond.instanceMethod yX3_alpha ∈ gG := gG_mk (i := 489) (by decide +kernel) (by decide +kernel)
theorem m490 : Cond.selects RX3 yX3_alpha yX3_alpha ∈ gG := gG_mk (i := 490) (by decide +kernel) (by decide +kernel)
theorem m491 : Cond.code yX3_alpha cX3_alpha 5 (some .int) ∈ gG := gG_mk (i := 491) (by decide +kernel) (by decide +kernel)
theorem m497 : Cond.methodLink RL 63 yX3_paper ∈ gG := gG_mk (i := 497) (by decide +kernel) (by decide +kernel)
theorem m498 : Cond.instanceMethod yX3_paper ∈ gG := gG_mk (i := 498) (by decide +kernel) (by decide +kernel)
theorem m499 : Cond.selects RX3 yX3_paper yX3_paper ∈ gG := gG_mk (i := 499) (by decide +kernel) (by decide +kernel)
theorem m500 : Cond.code yX3_paper cX3_paper 6 (some .int) ∈ gG := gG_mk (i := 500) (by decide +kernel) (by decide +kernel)
theorem m504 : Cond.methodLink RL 66 yX3_separable ∈ gG := gG_mk (i := 504) (by decide +kernel) (by decide +kernel)
theorem m505 : Cond.instanceMethod yX3_separable ∈ gG := gG_mk (i := 505) (by decide +kernel) (by decide +kernel)
theorem m506 : Cond.selects RX3 yX3_separable yX3_separable ∈ gG := gG_mk (i := 506) (by decide +kernel) (by decide +kernel)
theorem m507 : Cond.code yX3_separable cX3_separable 4 (some .int) ∈ gG := gG_mk (i := 507) (by decide +kernel) (by decide +kernel)
theorem m512 : Cond.methodLink RL 69 yX3_blend ∈ gG := gG_mk (i := 512) (by decide +kernel) (by decide +kernel)
theorem m513 : Cond.instanceMethod yX3_blend ∈ gG := gG_mk (i := 513) (by decide +kernel) (by decide +kernel)
theorem m514 : Cond.selects RX3 yX3_blend yX3_blend ∈ gG := gG_mk (i := 514) (by decide +kernel) (by decide +kernel)
theorem m515 : Cond.code yX3_blend cX3_blend 4 (some .int) ∈ gG := gG_mk (i := 515) (by decide +kernel) (by decide +kernel)
def wp_L_told (n : Nat) (ua : Nat → Nat → Int32) (uL : Nat → Nat → Nat → Int32) (uo : Nat → Int64) (p1 : Int32) (P : Int32 → (Nat → Nat → Int32) → (Nat → Nat → Nat → Int32) → (Nat → Int64) → Prop) : Prop :=
  wp_X3_told n ua p1 (fun r => P 0 ua uL (vp_updL uo 0 r.toInt64)) (fun E => (E = "java/lang/IllegalArgumentException" ∧ P 1 ua uL uo))
abbrev wL_told : List Cond := Cond.codeWith yL_told cL_told 4 (some .int) [(0, 9, 12, 13)] :: gG
abbrev rm_L_told : Room := { frames := 7, cells := 1, slots := 6, locals := 111 }
set_option maxHeartbeats 4000000 in
set_option maxRecDepth 100000 in
theorem c_L_told (l : Launch) (hl0 : l.stackTraces = false) (dC : Nat → ClassId) (dI : Nat → Nat → Nat) (cA : Nat → ClassId) (sa : Nat → Nat) (ga : Nat → Nat) (gl : Nat → Nat → Nat) (go n : Nat) (sz : Nat) (ua : Nat → Nat → Int32) (uL : Nat → Nat → Nat → Int32) (uo : Nat → Int64) (p1 : Int32) (P : Int32 → (Nat → Nat → Int32) → (Nat → Nat → Nat → Int32) → (Nat → Int64) → Prop) (hw : wp_L_told n ua uL uo p1 P) : Met l yL_told wL_told rm_L_told (xP2w dC dI cA sa (wG ga gl go cA n ua uL uo) sz [.ref (ga 0), .int p1, .ref go]) (va_Qi (fun r (u : (Nat → Nat → Int32) × (Nat → Nat → Nat → Int32) × (Nat → Int64)) => P r u.1 u.2.1 u.2.2) (xB dC dI cA (fun u : (Nat → Nat → Int32) × (Nat → Nat → Nat → Int32) × (Nat → Int64) => wG ga gl go cA n u.1 u.2.1 u.2.2) (va_A (wG ga gl go cA n ua uL uo) sz)) (va_A (wG ga gl go cA n ua uL uo) sz)) 1 6 (va_A (wG ga gl go cA n ua uL uo) sz) := by
  refine xofWH (cc := cL_told) (maxL := 4) (ret := (some .int)) (by decide) rfl ?_
  intro p e s m args below meth c s₁ B hml hv
  obtain ⟨hargs, hsz, hP, hK, hD0, hE, hN1, hN2, hN3⟩ := hv
  have hx := B.exec
  have hb := B.bytes
  have hr := B.returns
  have hts := atoms_spec (ws := wL_told) B.pre
  have hown : s.vm.findClass RL = some m.cls := findClass_of_methodNamed B.named
  have hlocks := B.notSynchronized
  have htab := vx_table (x := yL_told) B (hts _ List.mem_cons_self)
  subst hsz
  have hD := hD0.self (sz := s.heap.size)
  generalize hAe : va_A (wG ga gl go cA n ua uL uo) s.heap.size = A at hD ⊢
  have hA : ∀ q : Nat, s.heap.size ≤ q → A q := fun q h => by rw [← hAe]; exact Or.inr h
  have hS : va_S A s.heap s.heap [] := va_S.rf
  clear hAe hD0
  have hl := lv_entry ([.ref (ga 0), .int p1, .ref go]) (n := 4) (Nat.le_of_ble_eq_true rfl)
  rw [show entryFrame m args 4 = entryFrame m (([.ref (ga 0), .int p1, .ref go] : List Value).toArray) 4 from by rw [hargs], lg_entry_eq]
  generalize (lg_sl ([.ref (ga 0), .int p1, .ref go]) ++ List.replicate (4 - (lg_sl ([.ref (ga 0), .int p1, .ref go])).length) Slot.unset).toArray = ls at hl ⊢
  have hl : lv_has ls 4 [(0, .ref (ga 0)), (1, .int p1), (2, .ref go)] := hl
  refine lv_aload_n hx hb dL_told_0 rfl (lv_at hl 2 rfl) ?_
  refine lv_iconst (v := 0) hx hb dL_told_1 (by decide) ?_
  refine lv_aload_n hx hb dL_told_2 rfl (lv_at hl 0 rfl) ?_
  refine lv_iload_n hx hb dL_told_3 rfl (lv_at hl 1 rfl) ?_
  have hPc := hP.sub (ws' := (w_br ga gl cA n ua)) [0, 1, 2, 3] rfl
  refine vx_calli (vx_runV (As := [.int p1]) (rest := [.int 0, .ref go]) ⟨hx, hb, hml, hown, hts⟩ (c_X3_told l hl0 dC dI cA sa ga gl n ua p1 _ _ hw) (gcV 1 hts m133 m130 m131 m132 m21 rfl rfl (by decide +kernel) ⟨Nat.le_of_ble_eq_true rfl, Nat.le_of_ble_eq_true rfl⟩) ⟨xbl1t, va_recv hK hPc (ci := 2) (q0 := 0) rfl rfl, fun U hU hW => ⟨rfl, by rw [hU]; exact hPc, va_K.moved hW.alike hK, xEmv hE hW (va_S.rf : va_S (fun _ => False) s.heap s.heap []) hU⟩⟩ rfl rfl hl.1 rfl (lv_room (Nat.le_of_ble_eq_true rfl)) dL_told_4 ⟨Nat.le_of_ble_eq_true rfl, Nat.le_of_ble_eq_true rfl⟩) hS (fun q _ h => h.elim) (fun q h => h.elim) (fun q _ h => h.elim) (fun E ce q9 u t H1 locs1 ht hvm hpx hB hz1 hk1 hS1 hce hcv hcl => ?_) (fun r u t H1 locs ht hvm hw hB hz1 hk1 hS => ?_)
  · subst hB
    have hP1 := xkeep hP hk1
    obtain ⟨e9, hw⟩ := hpx
    subst e9
    refine vx_catch hown [] { startPc := 0, endPc := 9, handlerPc := 12, catchType := 13 } [] (by rw [htab]; rfl) (fun z hz => by cases hz) (by decide) (by decide) (hts _ (xm m129)) (xcast hE xc_IllegalArgumentException) hce hcv hcl ?_
    refine lv_astore_n (lv' := [(3, .ref q9), (0, .ref (ga 0)), (1, .int p1), (2, .ref go)]) hx hb dL_told_12 rfl hl (by decide) rfl (fun ls hl => ?_)
    refine lv_iconst (v := 1) hx hb dL_told_13 (by decide) ?_
    exact W.iret hx hb hr (fun t ht2 hW => ⟨⟨_, (ua, uL, uo), rfl, hw, by rw [ht2]; exact hP1, va_K.moved hW.alike hK, hD⟩, hS1.F ht2⟩) hS1.2.2 dL_told_14
  replace hP := xkeep hP hk1
  clear ht hB hz1 hk1 hPc
  generalize H1 = H at hP hS ⊢
  refine lv_i2l hx hb dL_told_7 rfl ?_
  refine va_last hx hb hK hP hD hS 40 3 rfl rfl (xin (by decide)) dL_told_8 (fun H locs hP hD hS => ?_)
  have hP : va_P (dC, dI) vwCl (wG ga gl go cA n ua uL (vp_updL uo 0 r.toInt64)) H := hP
  have hD : va_D A (wG ga gl go cA n ua uL (vp_updL uo 0 r.toInt64)) := hD
  refine lv_goto (tgt := 15) hx hb dL_told_9 (by decide) ?_
  refine lv_iconst (v := 0) hx hb dL_told_15 (by decide) ?_
  exact W.iret hx hb hr (fun t ht2 hW => ⟨⟨_, (ua, uL, (vp_updL uo 0 r.toInt64)), rfl, hw, by rw [ht2]; exact hP, va_K.moved hW.alike hK, hD⟩, hS.F ht2⟩) hS.2.2 dL_told_16
def wp_L_bound (n : Nat) (ua : Nat → Nat → Int32) (uL : Nat → Nat → Nat → Int32) (uo : Nat → Int64) (p1 : Int32) (P : Int32 → (Nat → Nat → Int32) → (Nat → Nat → Nat → Int32) → (Nat → Int64) → Prop) : Prop :=
  wp_X3_bound n ua p1 (fun ua1 => P 0 ua1 uL uo) (fun E => (E = "java/lang/IllegalArgumentException" ∧ P 1 ua uL uo))
abbrev wL_bound : List Cond := Cond.codeWith yL_bound cL_bound 3 (some .int) [(0, 5, 8, 13)] :: gG
abbrev rm_L_bound : Room := { frames := 7, cells := 1, slots := 6, locals := 111 }
set_option maxHeartbeats 4000000 in
set_option maxRecDepth 100000 in
theorem c_L_bound (l : Launch) (hl0 : l.stackTraces = false) (dC : Nat → ClassId) (dI : Nat → Nat → Nat) (cA : Nat → ClassId) (sa : Nat → Nat) (ga : Nat → Nat) (gl : Nat → Nat → Nat) (go n : Nat) (sz : Nat) (ua : Nat → Nat → Int32) (uL : Nat → Nat → Nat → Int32) (uo : Nat → Int64) (p1 : Int32) (P : Int32 → (Nat → Nat → Int32) → (Nat → Nat → Nat → Int32) → (Nat → Int64) → Prop) (hw : wp_L_bound n ua uL uo p1 P) : Met l yL_bound wL_bound rm_L_bound (xP2w dC dI cA sa (wG ga gl go cA n ua uL uo) sz [.ref (ga 0), .int p1]) (va_Qi (fun r (u : (Nat → Nat → Int32) × (Nat → Nat → Nat → Int32) × (Nat → Int64)) => P r u.1 u.2.1 u.2.2) (xB dC dI cA (fun u : (Nat → Nat → Int32) × (Nat → Nat → Nat → Int32) × (Nat → Int64) => wG ga gl go cA n u.1 u.2.1 u.2.2) (va_A (wG ga gl go cA n ua uL uo) sz)) (va_A (wG ga gl go cA n ua uL uo) sz)) 1 6 (va_A (wG ga gl go cA n ua uL uo) sz) := by
  refine xofWH (cc := cL_bound) (maxL := 3) (ret := (some .int)) (by decide) rfl ?_
  intro p e s m args below meth c s₁ B hml hv
  obtain ⟨hargs, hsz, hP, hK, hD0, hE, hN1, hN2, hN3⟩ := hv
  have hx := B.exec
  have hb := B.bytes
  have hr := B.returns
  have hts := atoms_spec (ws := wL_bound) B.pre
  have hown : s.vm.findClass RL = some m.cls := findClass_of_methodNamed B.named
  have hlocks := B.notSynchronized
  have htab := vx_table (x := yL_bound) B (hts _ List.mem_cons_self)
  subst hsz
  have hD := hD0.self (sz := s.heap.size)
  generalize hAe : va_A (wG ga gl go cA n ua uL uo) s.heap.size = A at hD ⊢
  have hA : ∀ q : Nat, s.heap.size ≤ q → A q := fun q h => by rw [← hAe]; exact Or.inr h
  have hS : va_S A s.heap s.heap [] := va_S.rf
  clear hAe hD0
  have hl := lv_entry ([.ref (ga 0), .int p1]) (n := 3) (Nat.le_of_ble_eq_true rfl)
  rw [show entryFrame m args 3 = entryFrame m (([.ref (ga 0), .int p1] : List Value).toArray) 3 from by rw [hargs], lg_entry_eq]
  generalize (lg_sl ([.ref (ga 0), .int p1]) ++ List.replicate (3 - (lg_sl ([.ref (ga 0), .int p1])).length) Slot.unset).toArray = ls at hl ⊢
  have hl : lv_has ls 3 [(0, .ref (ga 0)), (1, .int p1)] := hl
  refine lv_aload_n hx hb dL_bound_0 rfl (lv_at hl 0 rfl) ?_
  refine lv_iload_n hx hb dL_bound_1 rfl (lv_at hl 1 rfl) ?_
  have hPc := hP.sub (ws' := (w_br ga gl cA n ua)) [0, 1, 2, 3] rfl
  have hDc := hD.sub (ws' := (w_br ga gl cA n ua)) [0, 1, 2, 3] (by decide) rfl
  have hFc := va_free (wc := (w_br ga gl cA n ua)) hD hS hA [0, 1, 2, 3] rfl
  refine vx_callv (vx_runV (As := [.int p1]) (rest := []) ⟨hx, hb, hml, hown, hts⟩ (c_X3_bound l hl0 dC dI cA sa ga gl n _ ua p1 _ _ hw) (gcV 1 hts m209 m206 m207 m208 m21 rfl rfl (by decide +kernel) ⟨Nat.le_of_ble_eq_true rfl, Nat.le_of_ble_eq_true rfl⟩) ⟨xbl2t, va_recv hK hPc (ci := 2) (q0 := 0) rfl rfl, fun U hU hW => ⟨rfl, by rw [hU], by rw [hU]; exact hPc, va_K.moved hW.alike hK, hDc.weaken (fun _ _ _ _ => trivial), xEmv hE hW (va_S.rf : va_S (fun _ => False) s.heap s.heap []) hU⟩⟩ rfl rfl hl.1 rfl (lv_room (Nat.le_of_ble_eq_true rfl)) dL_bound_2 ⟨Nat.le_of_ble_eq_true rfl, Nat.le_of_ble_eq_true rfl⟩) hS (fun q _ h => hFc q h) hFc (fun q _ h => h.elim) (fun E ce q9 u t H1 locs1 ht hvm hpx hB hz1 hk1 hS1 hce hcv hcl => ?_) (fun u t H1 locs ht hvm hw hB hz1 hk1 hS => ?_)
  · subst hB
    have hP1 := xkeep hP hk1
    obtain ⟨e9, hw⟩ := hpx
    subst e9
    refine vx_catch hown [] { startPc := 0, endPc := 5, handlerPc := 8, catchType := 13 } [] (by rw [htab]; rfl) (fun z hz => by cases hz) (by decide) (by decide) (hts _ (xm m129)) (xcast hE xc_IllegalArgumentException) hce hcv hcl ?_
    refine lv_astore_n (lv' := [(2, .ref q9), (0, .ref (ga 0)), (1, .int p1)]) hx hb dL_bound_8 rfl hl (by decide) rfl (fun ls hl => ?_)
    refine lv_iconst (v := 1) hx hb dL_bound_9 (by decide) ?_
    exact W.iret hx hb hr (fun t ht2 hW => ⟨⟨_, (ua, uL, uo), rfl, hw, by rw [ht2]; exact hP1, va_K.moved hW.alike hK, hD⟩, hS1.F ht2⟩) hS1.2.2 dL_bound_10
  obtain ⟨ua1, e_u⟩ : ∃ z, z = u := ⟨_, rfl⟩
  subst e_u
  obtain ⟨hP1, hK1, hD1⟩ := hB
  rw [ht] at hP1
  have hJ := full0_J hP hD hk1 hFc hP1 hD1
  have hP := hJ.1
  have hD := hJ.2
  clear hP1 hD1 hK1 hk1 hz1 hFc hDc hPc ht hJ
  generalize H1 = H at hP hS ⊢
  refine lv_goto (tgt := 11) hx hb dL_bound_5 (by decide) ?_
  refine lv_iconst (v := 0) hx hb dL_bound_11 (by decide) ?_
  exact W.iret hx hb hr (fun t ht2 hW => ⟨⟨_, (ua1, uL, uo), rfl, hw, by rw [ht2]; exact hP, va_K.moved hW.alike hK, hD⟩, hS.F ht2⟩) hS.2.2 dL_bound_12
def wp_L_group (n : Nat) (j : Nat) (ua : Nat → Nat → Int32) (uL : Nat → Nat → Nat → Int32) (uo : Nat → Int64) (p1 : Int32) (p2 : Int32) (P : Int32 → (Nat → Nat → Int32) → (Nat → Nat → Nat → Int32) → (Nat → Int64) → Prop) : Prop :=
  wp_X3_group n (j + 1) j ua (uL (j + 1)) (uL j) p1 p2 (fun r ua1 ub1 uc1 => P 0 ua1 (va_up (va_up uL (j + 1) ub1) j uc1) (vp_updL uo 0 r.toInt64)) (fun E => (E = "java/lang/UnsupportedOperationException" ∧ P 1 ua uL uo))
abbrev wL_group : List Cond := Cond.codeWith yL_group cL_group 5 (some .int) [(0, 10, 13, 23)] :: gG
abbrev rm_L_group : Room := { frames := 7, cells := 1, slots := 6, locals := 113 }
set_option maxHeartbeats 4000000 in
set_option maxRecDepth 100000 in
theorem c_L_group (l : Launch) (hl0 : l.stackTraces = false) (dC : Nat → ClassId) (dI : Nat → Nat → Nat) (cA : Nat → ClassId) (sa : Nat → Nat) (ga : Nat → Nat) (gl : Nat → Nat → Nat) (go n : Nat) (j : Nat) (hk : j < 5) (sz : Nat) (ua : Nat → Nat → Int32) (uL : Nat → Nat → Nat → Int32) (uo : Nat → Int64) (p1 : Int32) (p2 : Int32) (P : Int32 → (Nat → Nat → Int32) → (Nat → Nat → Nat → Int32) → (Nat → Int64) → Prop) (hw : wp_L_group n j ua uL uo p1 p2 P) : Met l yL_group wL_group rm_L_group (xP2w dC dI cA sa (wG ga gl go cA n ua uL uo) sz [.ref (ga 0), .int p1, .int p2, .ref go]) (va_Qi (fun r (u : (Nat → Nat → Int32) × (Nat → Nat → Nat → Int32) × (Nat → Int64)) => P r u.1 u.2.1 u.2.2) (xB dC dI cA (fun u : (Nat → Nat → Int32) × (Nat → Nat → Nat → Int32) × (Nat → Int64) => wG ga gl go cA n u.1 u.2.1 u.2.2) (va_A (wG ga gl go cA n ua uL uo) sz)) (va_A (wG ga gl go cA n ua uL uo) sz)) 1 6 (va_A (wG ga gl go cA n ua uL uo) sz) := by
  refine xofWH (cc := cL_group) (maxL := 5) (ret := (some .int)) (by decide) rfl ?_
  intro p e s m args below meth c s₁ B hml hv
  obtain ⟨hargs, hsz, hP, hK, hD0, hE, hN1, hN2, hN3⟩ := hv
  have hx := B.exec
  have hb := B.bytes
  have hr := B.returns
  have hts := atoms_spec (ws := wL_group) B.pre
  have hown : s.vm.findClass RL = some m.cls := findClass_of_methodNamed B.named
  have hlocks := B.notSynchronized
  have htab := vx_table (x := yL_group) B (hts _ List.mem_cons_self)
  subst hsz
  have hD := hD0.self (sz := s.heap.size)
  generalize hAe : va_A (wG ga gl go cA n ua uL uo) s.heap.size = A at hD ⊢
  have hA : ∀ q : Nat, s.heap.size ≤ q → A q := fun q h => by rw [← hAe]; exact Or.inr h
  have hS : va_S A s.heap s.heap [] := va_S.rf
  clear hAe hD0
  have hl := lv_entry ([.ref (ga 0), .int p1, .int p2, .ref go]) (n := 5) (Nat.le_of_ble_eq_true rfl)
  rw [show entryFrame m args 5 = entryFrame m (([.ref (ga 0), .int p1, .int p2, .ref go] : List Value).toArray) 5 from by rw [hargs], lg_entry_eq]
  generalize (lg_sl ([.ref (ga 0), .int p1, .int p2, .ref go]) ++ List.replicate (5 - (lg_sl ([.ref (ga 0), .int p1, .int p2, .ref go])).length) Slot.unset).toArray = ls at hl ⊢
  have hl : lv_has ls 5 [(0, .ref (ga 0)), (1, .int p1), (2, .int p2), (3, .ref go)] := hl
  refine lv_aload_n hx hb dL_group_0 rfl (lv_at hl 3 rfl) ?_
  refine lv_iconst (v := 0) hx hb dL_group_1 (by decide) ?_
  refine lv_aload_n hx hb dL_group_2 rfl (lv_at hl 0 rfl) ?_
  refine lv_iload_n hx hb dL_group_3 rfl (lv_at hl 1 rfl) ?_
  refine lv_iload_n hx hb dL_group_4 rfl (lv_at hl 2 rfl) ?_
  have hPc := full2g_P hk hP
  have hDc := full2g_D (D := (dC, dI)) (H := s.heap) hk hD
  have hFc := full2g_F (D := (dC, dI)) hk hD hS hA
  refine vx_calli (vx_runV (As := [.int p1, .int p2]) (rest := [.int 0, .ref go]) ⟨hx, hb, hml, hown, hts⟩ (c_X3_group l hl0 dC dI cA sa ga gl n (j + 1) j _ ua (uL (j + 1)) (uL j) p1 p2 _ _ hw) (gcV 2 hts m218 m215 m216 m217 m21 rfl rfl (by decide +kernel) ⟨Nat.le_of_ble_eq_true rfl, Nat.le_of_ble_eq_true rfl⟩) ⟨xbl2t, va_recv hK hPc (ci := 2) (q0 := 0) rfl rfl, fun U hU hW => ⟨rfl, by rw [hU], by rw [hU]; exact hPc, va_K.moved hW.alike hK, hDc.weaken (fun _ _ _ _ => trivial), xEmv hE hW (va_S.rf : va_S (fun _ => False) s.heap s.heap []) hU⟩⟩ rfl rfl hl.1 rfl (lv_room (Nat.le_of_ble_eq_true rfl)) dL_group_5 ⟨Nat.le_of_ble_eq_true rfl, Nat.le_of_ble_eq_true rfl⟩) hS (fun q _ h => hFc q h) hFc (fun q _ h => h.elim) (fun E ce q9 u t H1 locs1 ht hvm hpx hB hz1 hk1 hS1 hce hcv hcl => ?_) (fun r u t H1 locs ht hvm hw hB hz1 hk1 hS => ?_)
  · subst hB
    have hP1 := xkeep hP hk1
    obtain ⟨e9, hw⟩ := hpx
    subst e9
    refine vx_catch hown [] { startPc := 0, endPc := 10, handlerPc := 13, catchType := 23 } [] (by rw [htab]; rfl) (fun z hz => by cases hz) (by decide) (by decide) (hts _ (xm m214)) (xcast hE xc_UnsupportedOperationException) hce hcv hcl ?_
    refine lv_astore (lv' := [(4, .ref q9), (0, .ref (ga 0)), (1, .int p1), (2, .int p2), (3, .ref go)]) hx hb dL_group_13 hl (by decide) rfl (fun ls hl => ?_)
    refine lv_iconst (v := 1) hx hb dL_group_15 (by decide) ?_
    exact W.iret hx hb hr (fun t ht2 hW => ⟨⟨_, (ua, uL, uo), rfl, hw, by rw [ht2]; exact hP1, va_K.moved hW.alike hK, hD⟩, hS1.F ht2⟩) hS1.2.2 dL_group_16
  obtain ⟨ua1, ub1, uc1⟩ := u
  obtain ⟨hP1, hK1, hD1⟩ := hB
  rw [ht] at hP1
  have hJ := full2g_J hk hP hD hk1 hFc hP1 hD1
  have hP := hJ.1
  have hD := hJ.2
  clear hP1 hD1 hK1 hk1 hz1 hFc hDc hPc ht hJ
  generalize H1 = H at hP hS ⊢
  refine lv_i2l hx hb dL_group_8 rfl ?_
  refine va_last hx hb hK hP hD hS 40 3 rfl rfl (xin (by decide)) dL_group_9 (fun H locs hP hD hS => ?_)
  have hP : va_P (dC, dI) vwCl (wG ga gl go cA n ua1 (va_up (va_up uL (j + 1) ub1) j uc1) (vp_updL uo 0 r.toInt64)) H := hP
  have hD : va_D A (wG ga gl go cA n ua1 (va_up (va_up uL (j + 1) ub1) j uc1) (vp_updL uo 0 r.toInt64)) := hD
  refine lv_goto (tgt := 17) hx hb dL_group_10 (by decide) ?_
  refine lv_iconst (v := 0) hx hb dL_group_17 (by decide) ?_
  exact W.iret hx hb hr (fun t ht2 hW => ⟨⟨_, (ua1, (va_up (va_up uL (j + 1) ub1) j uc1), (vp_updL uo 0 r.toInt64)), rfl, hw, by rw [ht2]; exact hP, va_K.moved hW.alike hK, hD⟩, hS.F ht2⟩) hS.2.2 dL_group_18
def wp_L_end (n : Nat) (j : Nat) (ua : Nat → Nat → Int32) (uL : Nat → Nat → Nat → Int32) (uo : Nat → Int64) (p1 : Int32) (p2 : Int32) (P : Int32 → (Nat → Nat → Int32) → (Nat → Nat → Nat → Int32) → (Nat → Int64) → Prop) : Prop :=
  wp_X3_end n j (j + 1) ua (uL j) (uL (j + 1)) p1 p2 (fun r ua1 ub1 uc1 => P 0 ua1 (va_up (va_up uL j ub1) (j + 1) uc1) (vp_updL uo 0 r.toInt64)) (fun E => ((E = "java/lang/IllegalStateException" → P 1 ua uL uo) ∧ (¬ E = "java/lang/IllegalStateException" → (E = "java/lang/IllegalArgumentException" ∧ P 2 ua uL uo))))
abbrev wL_end : List Cond := Cond.codeWith yL_end cL_end 5 (some .int) [(0, 10, 13, 29), (0, 10, 17, 13)] :: gG
abbrev rm_L_end : Room := { frames := 8, cells := 3, slots := 18, locals := 179 }
set_option maxHeartbeats 4000000 in
set_option maxRecDepth 100000 in
theorem c_L_end (l : Launch) (hl0 : l.stackTraces = false) (dC : Nat → ClassId) (dI : Nat → Nat → Nat) (cA : Nat → ClassId) (sa : Nat → Nat) (ga : Nat → Nat) (gl : Nat → Nat → Nat) (go n : Nat) (j : Nat) (hk : j < 5) (sz : Nat) (ua : Nat → Nat → Int32) (uL : Nat → Nat → Nat → Int32) (uo : Nat → Int64) (p1 : Int32) (p2 : Int32) (P : Int32 → (Nat → Nat → Int32) → (Nat → Nat → Nat → Int32) → (Nat → Int64) → Prop) (hw : wp_L_end n j ua uL uo p1 p2 P) : Met l yL_end wL_end rm_L_end (xP2w dC dI cA sa (wG ga gl go cA n ua uL uo) sz [.ref (ga 0), .int p1, .int p2, .ref go]) (va_Qi (fun r (u : (Nat → Nat → Int32) × (Nat → Nat → Nat → Int32) × (Nat → Int64)) => P r u.1 u.2.1 u.2.2) (xB dC dI cA (fun u : (Nat → Nat → Int32) × (Nat → Nat → Nat → Int32) × (Nat → Int64) => wG ga gl go cA n u.1 u.2.1 u.2.2) (va_A (wG ga gl go cA n ua uL uo) sz)) (va_A (wG ga gl go cA n ua uL uo) sz)) 3 18 (va_A (wG ga gl go cA n ua uL uo) sz) := by
  refine xofWH (cc := cL_end) (maxL := 5) (ret := (some .int)) (by decide) rfl ?_
  intro p e s m args below meth c s₁ B hml hv
  obtain ⟨hargs, hsz, hP, hK, hD0, hE, hN1, hN2, hN3⟩ := hv
  have hx := B.exec
  have hb := B.bytes
  have hr := B.returns
  have hts := atoms_spec (ws := wL_end) B.pre
  have hown : s.vm.findClass RL = some m.cls := findClass_of_methodNamed B.named
  have hlocks := B.notSynchronized
  have htab := vx_table (x := yL_end) B (hts _ List.mem_cons_self)
  subst hsz
  have hD := hD0.self (sz := s.heap.size)
  generalize hAe : va_A (wG ga gl go cA n ua uL uo) s.heap.size = A at hD ⊢
  have hA : ∀ q : Nat, s.heap.size ≤ q → A q := fun q h => by rw [← hAe]; exact Or.inr h
  have hS : va_S A s.heap s.heap [] := va_S.rf
  clear hAe hD0
  have hl := lv_entry ([.ref (ga 0), .int p1, .int p2, .ref go]) (n := 5) (Nat.le_of_ble_eq_true rfl)
  rw [show entryFrame m args 5 = entryFrame m (([.ref (ga 0), .int p1, .int p2, .ref go] : List Value).toArray) 5 from by rw [hargs], lg_entry_eq]
  generalize (lg_sl ([.ref (ga 0), .int p1, .int p2, .ref go]) ++ List.replicate (5 - (lg_sl ([.ref (ga 0), .int p1, .int p2, .ref go])).length) Slot.unset).toArray = ls at hl ⊢
  have hl : lv_has ls 5 [(0, .ref (ga 0)), (1, .int p1), (2, .int p2), (3, .ref go)] := hl
  refine lv_aload_n hx hb dL_end_0 rfl (lv_at hl 3 rfl) ?_
  refine lv_iconst (v := 0) hx hb dL_end_1 (by decide) ?_
  refine lv_aload_n hx hb dL_end_2 rfl (lv_at hl 0 rfl) ?_
  refine lv_iload_n hx hb dL_end_3 rfl (lv_at hl 1 rfl) ?_
  refine lv_iload_n hx hb dL_end_4 rfl (lv_at hl 2 rfl) ?_
  have hPc := full2e_P hk hP
  have hDc := full2e_D (D := (dC, dI)) (H := s.heap) hk hD
  have hFc := full2e_F (D := (dC, dI)) hk hD hS hA
  refine vx_calli (vx_runV (As := [.int p1, .int p2]) (rest := [.int 0, .ref go]) ⟨hx, hb, hml, hown, hts⟩ (c_X3_end l hl0 dC dI cA sa ga gl n j (j + 1) _ ua (uL j) (uL (j + 1)) p1 p2 _ _ hw) (gcV 2 hts m268 m265 m266 m267 m21 rfl rfl (by decide +kernel) ⟨Nat.le_of_ble_eq_true rfl, Nat.le_of_ble_eq_true rfl⟩) ⟨xbl2t, va_recv hK hPc (ci := 2) (q0 := 0) rfl rfl, fun U hU hW => ⟨rfl, by rw [hU], by rw [hU]; exact hPc, va_K.moved hW.alike hK, hDc.weaken (fun _ _ _ _ => trivial), xEmv hE hW (va_S.rf : va_S (fun _ => False) s.heap s.heap []) hU⟩⟩ rfl rfl hl.1 rfl (lv_room (Nat.le_of_ble_eq_true rfl)) dL_end_5 ⟨Nat.le_of_ble_eq_true rfl, Nat.le_of_ble_eq_true rfl⟩) hS (fun q _ h => hFc q h) hFc (fun q _ h => h.elim) (fun E ce q9 u t H1 locs1 ht hvm hpx hB hz1 hk1 hS1 hce hcv hcl => ?_) (fun r u t H1 locs ht hvm hw hB hz1 hk1 hS => ?_)
  · subst hB
    have hP1 := xkeep hP hk1
    by_cases e9 : E = "java/lang/IllegalStateException"
    · replace hw := hpx.1 e9
      subst e9
      refine vx_catch hown [] { startPc := 0, endPc := 10, handlerPc := 13, catchType := 29 } [{ startPc := 0, endPc := 10, handlerPc := 17, catchType := 13 }] (by rw [htab]; rfl) (fun z hz => by cases hz) (by decide) (by decide) (hts _ (xm m264)) (xcast hE xc_IllegalStateException) hce hcv hcl ?_
      refine lv_astore (lv' := [(4, .ref q9), (0, .ref (ga 0)), (1, .int p1), (2, .int p2), (3, .ref go)]) hx hb dL_end_13 hl (by decide) rfl (fun ls hl => ?_)
      refine lv_iconst (v := 1) hx hb dL_end_15 (by decide) ?_
      exact W.iret hx hb hr (fun t ht2 hW => ⟨⟨_, (ua, uL, uo), rfl, hw, by rw [ht2]; exact hP1, va_K.moved hW.alike hK, hD⟩, hS1.F ht2⟩) hS1.2.2 dL_end_16
    · obtain ⟨e8, hw⟩ := hpx.2 e9
      subst e8
      refine vx_catch hown [{ startPc := 0, endPc := 10, handlerPc := 13, catchType := 29 }] { startPc := 0, endPc := 10, handlerPc := 17, catchType := 13 } [] (by rw [htab]; rfl) (fun z hz => by rcases List.mem_singleton.mp hz with rfl; exact Or.inr ⟨by decide, _, hts _ (xm m264), hN1⟩) (by decide) (by decide) (hts _ (xm m129)) (xcast hE xc_IllegalArgumentException) hce hcv hcl ?_
      refine lv_astore (lv' := [(4, .ref q9), (0, .ref (ga 0)), (1, .int p1), (2, .int p2), (3, .ref go)]) hx hb dL_end_17 hl (by decide) rfl (fun ls hl => ?_)
      refine lv_iconst (v := 2) hx hb dL_end_19 (by decide) ?_
      exact W.iret hx hb hr (fun t ht2 hW => ⟨⟨_, (ua, uL, uo), rfl, hw, by rw [ht2]; exact hP1, va_K.moved hW.alike hK, hD⟩, hS1.F ht2⟩) hS1.2.2 dL_end_20
  obtain ⟨ua1, ub1, uc1⟩ := u
  obtain ⟨hP1, hK1, hD1⟩ := hB
  rw [ht] at hP1
  have hJ := full2e_J hk hP hD hk1 hFc hP1 hD1
  have hP := hJ.1
  have hD := hJ.2
  clear hP1 hD1 hK1 hk1 hz1 hFc hDc hPc ht hJ
  generalize H1 = H at hP hS ⊢
  refine lv_i2l hx hb dL_end_8 rfl ?_
  refine va_last hx hb hK hP hD hS 40 3 rfl rfl (xin (by decide)) dL_end_9 (fun H locs hP hD hS => ?_)
  have hP : va_P (dC, dI) vwCl (wG ga gl go cA n ua1 (va_up (va_up uL j ub1) (j + 1) uc1) (vp_updL uo 0 r.toInt64)) H := hP
  have hD : va_D A (wG ga gl go cA n ua1 (va_up (va_up uL j ub1) (j + 1) uc1) (vp_updL uo 0 r.toInt64)) := hD
  refine lv_goto (tgt := 21) hx hb dL_end_10 (by decide) ?_
  refine lv_iconst (v := 0) hx hb dL_end_21 (by decide) ?_
  exact W.iret hx hb hr (fun t ht2 hW => ⟨⟨_, (ua1, (va_up (va_up uL j ub1) (j + 1) uc1), (vp_updL uo 0 r.toInt64)), rfl, hw, by rw [ht2]; exact hP, va_K.moved hW.alike hK, hD⟩, hS.F ht2⟩) hS.2.2 dL_end_22
def wp_L_mask (n : Nat) (k : Nat) (ua : Nat → Nat → Int32) (uL : Nat → Nat → Nat → Int32) (uo : Nat → Int64) (p1 : Int32) (p2 : Int32) (P : Int32 → (Nat → Nat → Int32) → (Nat → Nat → Nat → Int32) → (Nat → Int64) → Prop) : Prop :=
  wp_X3_mask n k ua (uL k) p1 p2 (fun r ua1 ub1 => P 0 ua1 (va_up uL k ub1) (vp_updL uo 0 r.toInt64)) (fun E => ((E = "java/lang/IllegalStateException" → P 1 ua uL uo) ∧ (¬ E = "java/lang/IllegalStateException" → (E = "java/lang/IllegalArgumentException" ∧ P 2 ua uL uo))))
abbrev wL_mask : List Cond := Cond.codeWith yL_mask cL_mask 5 (some .int) [(0, 10, 13, 29), (0, 10, 17, 13)] :: gG
abbrev rm_L_mask : Room := { frames := 8, cells := 2, slots := 12, locals := 135 }
set_option maxHeartbeats 4000000 in
set_option maxRecDepth 100000 in
theorem c_L_mask (l : Launch) (hl0 : l.stackTraces = false) (dC : Nat → ClassId) (dI : Nat → Nat → Nat) (cA : Nat → ClassId) (sa : Nat → Nat) (ga : Nat → Nat) (gl : Nat → Nat → Nat) (go n : Nat) (k : Nat) (hk : k < 6) (sz : Nat) (ua : Nat → Nat → Int32) (uL : Nat → Nat → Nat → Int32) (uo : Nat → Int64) (p1 : Int32) (p2 : Int32) (P : Int32 → (Nat → Nat → Int32) → (Nat → Nat → Nat → Int32) → (Nat → Int64) → Prop) (hw : wp_L_mask n k ua uL uo p1 p2 P) : Met l yL_mask wL_mask rm_L_mask (xP2w dC dI cA sa (wG ga gl go cA n ua uL uo) sz [.ref (ga 0), .int p1, .int p2, .ref go]) (va_Qi (fun r (u : (Nat → Nat → Int32) × (Nat → Nat → Nat → Int32) × (Nat → Int64)) => P r u.1 u.2.1 u.2.2) (xB dC dI cA (fun u : (Nat → Nat → Int32) × (Nat → Nat → Nat → Int32) × (Nat → Int64) => wG ga gl go cA n u.1 u.2.1 u.2.2) (va_A (wG ga gl go cA n ua uL uo) sz)) (va_A (wG ga gl go cA n ua uL uo) sz)) 2 12 (va_A (wG ga gl go cA n ua uL uo) sz) := by
  refine xofWH (cc := cL_mask) (maxL := 5) (ret := (some .int)) (by decide) rfl ?_
  intro p e s m args below meth c s₁ B hml hv
  obtain ⟨hargs, hsz, hP, hK, hD0, hE, hN1, hN2, hN3⟩ := hv
  have hx := B.exec
  have hb := B.bytes
  have hr := B.returns
  have hts := atoms_spec (ws := wL_mask) B.pre
  have hown : s.vm.findClass RL = some m.cls := findClass_of_methodNamed B.named
  have hlocks := B.notSynchronized
  have htab := vx_table (x := yL_mask) B (hts _ List.mem_cons_self)
  subst hsz
  have hD := hD0.self (sz := s.heap.size)
  generalize hAe : va_A (wG ga gl go cA n ua uL uo) s.heap.size = A at hD ⊢
  have hA : ∀ q : Nat, s.heap.size ≤ q → A q := fun q h => by rw [← hAe]; exact Or.inr h
  have hS : va_S A s.heap s.heap [] := va_S.rf
  clear hAe hD0
  have hl := lv_entry ([.ref (ga 0), .int p1, .int p2, .ref go]) (n := 5) (Nat.le_of_ble_eq_true rfl)
  rw [show entryFrame m args 5 = entryFrame m (([.ref (ga 0), .int p1, .int p2, .ref go] : List Value).toArray) 5 from by rw [hargs], lg_entry_eq]
  generalize (lg_sl ([.ref (ga 0), .int p1, .int p2, .ref go]) ++ List.replicate (5 - (lg_sl ([.ref (ga 0), .int p1, .int p2, .ref go])).length) Slot.unset).toArray = ls at hl ⊢
  have hl : lv_has ls 5 [(0, .ref (ga 0)), (1, .int p1), (2, .int p2), (3, .ref go)] := hl
  refine lv_aload_n hx hb dL_mask_0 rfl (lv_at hl 3 rfl) ?_
  refine lv_iconst (v := 0) hx hb dL_mask_1 (by decide) ?_
  refine lv_aload_n hx hb dL_mask_2 rfl (lv_at hl 0 rfl) ?_
  refine lv_iload_n hx hb dL_mask_3 rfl (lv_at hl 1 rfl) ?_
  refine lv_iload_n hx hb dL_mask_4 rfl (lv_at hl 2 rfl) ?_
  have hPc := full1_P hk hP
  have hDc := full1_D (D := (dC, dI)) (H := s.heap) hk hD
  have hFc := full1_F (D := (dC, dI)) hk hD hS hA
  refine vx_calli (vx_runV (As := [.int p1, .int p2]) (rest := [.int 0, .ref go]) ⟨hx, hb, hml, hown, hts⟩ (c_X3_mask l hl0 dC dI cA sa ga gl n k _ ua (uL k) p1 p2 _ _ hw) (gcV 2 hts m402 m399 m400 m401 m21 rfl rfl (by decide +kernel) ⟨Nat.le_of_ble_eq_true rfl, Nat.le_of_ble_eq_true rfl⟩) ⟨xbl2t, va_recv hK hPc (ci := 2) (q0 := 0) rfl rfl, fun U hU hW => ⟨rfl, by rw [hU], by rw [hU]; exact hPc, va_K.moved hW.alike hK, hDc.weaken (fun _ _ _ _ => trivial), xEmv hE hW (va_S.rf : va_S (fun _ => False) s.heap s.heap []) hU⟩⟩ rfl rfl hl.1 rfl (lv_room (Nat.le_of_ble_eq_true rfl)) dL_mask_5 ⟨Nat.le_of_ble_eq_true rfl, Nat.le_of_ble_eq_true rfl⟩) hS (fun q _ h => hFc q h) hFc (fun q _ h => h.elim) (fun E ce q9 u t H1 locs1 ht hvm hpx hB hz1 hk1 hS1 hce hcv hcl => ?_) (fun r u t H1 locs ht hvm hw hB hz1 hk1 hS => ?_)
  · subst hB
    have hP1 := xkeep hP hk1
    by_cases e9 : E = "java/lang/IllegalStateException"
    · replace hw := hpx.1 e9
      subst e9
      refine vx_catch hown [] { startPc := 0, endPc := 10, handlerPc := 13, catchType := 29 } [{ startPc := 0, endPc := 10, handlerPc := 17, catchType := 13 }] (by rw [htab]; rfl) (fun z hz => by cases hz) (by decide) (by decide) (hts _ (xm m264)) (xcast hE xc_IllegalStateException) hce hcv hcl ?_
      refine lv_astore (lv' := [(4, .ref q9), (0, .ref (ga 0)), (1, .int p1), (2, .int p2), (3, .ref go)]) hx hb dL_mask_13 hl (by decide) rfl (fun ls hl => ?_)
      refine lv_iconst (v := 1) hx hb dL_mask_15 (by decide) ?_
      exact W.iret hx hb hr (fun t ht2 hW => ⟨⟨_, (ua, uL, uo), rfl, hw, by rw [ht2]; exact hP1, va_K.moved hW.alike hK, hD⟩, hS1.F ht2⟩) hS1.2.2 dL_mask_16
    · obtain ⟨e8, hw⟩ := hpx.2 e9
      subst e8
      refine vx_catch hown [{ startPc := 0, endPc := 10, handlerPc := 13, catchType := 29 }] { startPc := 0, endPc := 10, handlerPc := 17, catchType := 13 } [] (by rw [htab]; rfl) (fun z hz => by rcases List.mem_singleton.mp hz with rfl; exact Or.inr ⟨by decide, _, hts _ (xm m264), hN1⟩) (by decide) (by decide) (hts _ (xm m129)) (xcast hE xc_IllegalArgumentException) hce hcv hcl ?_
      refine lv_astore (lv' := [(4, .ref q9), (0, .ref (ga 0)), (1, .int p1), (2, .int p2), (3, .ref go)]) hx hb dL_mask_17 hl (by decide) rfl (fun ls hl => ?_)
      refine lv_iconst (v := 2) hx hb dL_mask_19 (by decide) ?_
      exact W.iret hx hb hr (fun t ht2 hW => ⟨⟨_, (ua, uL, uo), rfl, hw, by rw [ht2]; exact hP1, va_K.moved hW.alike hK, hD⟩, hS1.F ht2⟩) hS1.2.2 dL_mask_20
  obtain ⟨ua1, ub1⟩ := u
  obtain ⟨hP1, hK1, hD1⟩ := hB
  rw [ht] at hP1
  have hJ := full1_J hk hP hD hk1 hFc hP1 hD1
  have hP := hJ.1
  have hD := hJ.2
  clear hP1 hD1 hK1 hk1 hz1 hFc hDc hPc ht hJ
  generalize H1 = H at hP hS ⊢
  refine lv_i2l hx hb dL_mask_8 rfl ?_
  refine va_last hx hb hK hP hD hS 40 3 rfl rfl (xin (by decide)) dL_mask_9 (fun H locs hP hD hS => ?_)
  have hP : va_P (dC, dI) vwCl (wG ga gl go cA n ua1 (va_up uL k ub1) (vp_updL uo 0 r.toInt64)) H := hP
  have hD : va_D A (wG ga gl go cA n ua1 (va_up uL k ub1) (vp_updL uo 0 r.toInt64)) := hD
  refine lv_goto (tgt := 21) hx hb dL_mask_10 (by decide) ?_
  refine lv_iconst (v := 0) hx hb dL_mask_21 (by decide) ?_
  exact W.iret hx hb hr (fun t ht2 hW => ⟨⟨_, (ua1, (va_up uL k ub1), (vp_updL uo 0 r.toInt64)), rfl, hw, by rw [ht2]; exact hP, va_K.moved hW.alike hK, hD⟩, hS.F ht2⟩) hS.2.2 dL_mask_22
def wp_L_colour (n : Nat) (ua : Nat → Nat → Int32) (uL : Nat → Nat → Nat → Int32) (uo : Nat → Int64) (p1 : Int32) (p2 : Int32) (P : Int32 → (Nat → Nat → Int32) → (Nat → Nat → Nat → Int32) → (Nat → Int64) → Prop) : Prop :=
  wp_X3_colour n ua p1 p2 (fun ua1 => P 0 ua1 uL uo) (fun E => ((E = "java/lang/IllegalArgumentException" → P 1 ua uL uo) ∧ (¬ E = "java/lang/IllegalArgumentException" → (E = "java/lang/ArrayIndexOutOfBoundsException" ∧ P 2 ua uL uo))))
abbrev wL_colour : List Cond := Cond.codeWith yL_colour cL_colour 4 (some .int) [(0, 6, 9, 13), (0, 6, 12, 39)] :: gG
abbrev rm_L_colour : Room := { frames := 9, cells := 2, slots := 12, locals := 145 }
set_option maxHeartbeats 4000000 in
set_option maxRecDepth 100000 in
theorem c_L_colour (l : Launch) (hl0 : l.stackTraces = false) (dC : Nat → ClassId) (dI : Nat → Nat → Nat) (cA : Nat → ClassId) (sa : Nat → Nat) (ga : Nat → Nat) (gl : Nat → Nat → Nat) (go n : Nat) (sz : Nat) (ua : Nat → Nat → Int32) (uL : Nat → Nat → Nat → Int32) (uo : Nat → Int64) (p1 : Int32) (p2 : Int32) (P : Int32 → (Nat → Nat → Int32) → (Nat → Nat → Nat → Int32) → (Nat → Int64) → Prop) (hw : wp_L_colour n ua uL uo p1 p2 P) : Met l yL_colour wL_colour rm_L_colour (xP2w dC dI cA sa (wG ga gl go cA n ua uL uo) sz [.ref (ga 0), .int p1, .int p2]) (va_Qi (fun r (u : (Nat → Nat → Int32) × (Nat → Nat → Nat → Int32) × (Nat → Int64)) => P r u.1 u.2.1 u.2.2) (xB dC dI cA (fun u : (Nat → Nat → Int32) × (Nat → Nat → Nat → Int32) × (Nat → Int64) => wG ga gl go cA n u.1 u.2.1 u.2.2) (va_A (wG ga gl go cA n ua uL uo) sz)) (va_A (wG ga gl go cA n ua uL uo) sz)) 2 12 (va_A (wG ga gl go cA n ua uL uo) sz) := by
  refine xofWH (cc := cL_colour) (maxL := 4) (ret := (some .int)) (by decide) rfl ?_
  intro p e s m args below meth c s₁ B hml hv
  obtain ⟨hargs, hsz, hP, hK, hD0, hE, hN1, hN2, hN3⟩ := hv
  have hx := B.exec
  have hb := B.bytes
  have hr := B.returns
  have hts := atoms_spec (ws := wL_colour) B.pre
  have hown : s.vm.findClass RL = some m.cls := findClass_of_methodNamed B.named
  have hlocks := B.notSynchronized
  have htab := vx_table (x := yL_colour) B (hts _ List.mem_cons_self)
  subst hsz
  have hD := hD0.self (sz := s.heap.size)
  generalize hAe : va_A (wG ga gl go cA n ua uL uo) s.heap.size = A at hD ⊢
  have hA : ∀ q : Nat, s.heap.size ≤ q → A q := fun q h => by rw [← hAe]; exact Or.inr h
  have hS : va_S A s.heap s.heap [] := va_S.rf
  clear hAe hD0
  have hl := lv_entry ([.ref (ga 0), .int p1, .int p2]) (n := 4) (Nat.le_of_ble_eq_true rfl)
  rw [show entryFrame m args 4 = entryFrame m (([.ref (ga 0), .int p1, .int p2] : List Value).toArray) 4 from by rw [hargs], lg_entry_eq]
  generalize (lg_sl ([.ref (ga 0), .int p1, .int p2]) ++ List.replicate (4 - (lg_sl ([.ref (ga 0), .int p1, .int p2])).length) Slot.unset).toArray = ls at hl ⊢
  have hl : lv_has ls 4 [(0, .ref (ga 0)), (1, .int p1), (2, .int p2)] := hl
  refine lv_aload_n hx hb dL_colour_0 rfl (lv_at hl 0 rfl) ?_
  refine lv_iload_n hx hb dL_colour_1 rfl (lv_at hl 1 rfl) ?_
  refine lv_iload_n hx hb dL_colour_2 rfl (lv_at hl 2 rfl) ?_
  have hPc := hP.sub (ws' := (w_br ga gl cA n ua)) [0, 1, 2, 3] rfl
  have hDc := hD.sub (ws' := (w_br ga gl cA n ua)) [0, 1, 2, 3] (by decide) rfl
  have hFc := va_free (wc := (w_br ga gl cA n ua)) hD hS hA [0, 1, 2, 3] rfl
  refine vx_callv (vx_runV (As := [.int p1, .int p2]) (rest := []) ⟨hx, hb, hml, hown, hts⟩ (c_X3_colour l hl0 dC dI cA sa ga gl n _ ua p1 p2 _ _ hw) (gcV 2 hts m418 m415 m416 m417 m21 rfl rfl (by decide +kernel) ⟨Nat.le_of_ble_eq_true rfl, Nat.le_of_ble_eq_true rfl⟩) ⟨xbl2t, va_recv hK hPc (ci := 2) (q0 := 0) rfl rfl, fun U hU hW => ⟨rfl, by rw [hU], by rw [hU]; exact hPc, va_K.moved hW.alike hK, hDc.weaken (fun _ _ _ _ => trivial), xEmv hE hW (va_S.rf : va_S (fun _ => False) s.heap s.heap []) hU⟩⟩ rfl rfl hl.1 rfl (lv_room (Nat.le_of_ble_eq_true rfl)) dL_colour_3 ⟨Nat.le_of_ble_eq_true rfl, Nat.le_of_ble_eq_true rfl⟩) hS (fun q _ h => hFc q h) hFc (fun q _ h => h.elim) (fun E ce q9 u t H1 locs1 ht hvm hpx hB hz1 hk1 hS1 hce hcv hcl => ?_) (fun u t H1 locs ht hvm hw hB hz1 hk1 hS => ?_)
  · subst hB
    have hP1 := xkeep hP hk1
    by_cases e9 : E = "java/lang/IllegalArgumentException"
    · replace hw := hpx.1 e9
      subst e9
      refine vx_catch hown [] { startPc := 0, endPc := 6, handlerPc := 9, catchType := 13 } [{ startPc := 0, endPc := 6, handlerPc := 12, catchType := 39 }] (by rw [htab]; rfl) (fun z hz => by cases hz) (by decide) (by decide) (hts _ (xm m129)) (xcast hE xc_IllegalArgumentException) hce hcv hcl ?_
      refine lv_astore_n (lv' := [(3, .ref q9), (0, .ref (ga 0)), (1, .int p1), (2, .int p2)]) hx hb dL_colour_9 rfl hl (by decide) rfl (fun ls hl => ?_)
      refine lv_iconst (v := 1) hx hb dL_colour_10 (by decide) ?_
      exact W.iret hx hb hr (fun t ht2 hW => ⟨⟨_, (ua, uL, uo), rfl, hw, by rw [ht2]; exact hP1, va_K.moved hW.alike hK, hD⟩, hS1.F ht2⟩) hS1.2.2 dL_colour_11
    · obtain ⟨e8, hw⟩ := hpx.2 e9
      subst e8
      refine vx_catch hown [{ startPc := 0, endPc := 6, handlerPc := 9, catchType := 13 }] { startPc := 0, endPc := 6, handlerPc := 12, catchType := 39 } [] (by rw [htab]; rfl) (fun z hz => by rcases List.mem_singleton.mp hz with rfl; exact Or.inr ⟨by decide, _, hts _ (xm m129), hN2⟩) (by decide) (by decide) (hts _ (xm m414)) (xcast hE xc_ArrayIndexOutOfBoundsException) hce hcv hcl ?_
      refine lv_astore_n (lv' := [(3, .ref q9), (0, .ref (ga 0)), (1, .int p1), (2, .int p2)]) hx hb dL_colour_12 rfl hl (by decide) rfl (fun ls hl => ?_)
      refine lv_iconst (v := 2) hx hb dL_colour_13 (by decide) ?_
      exact W.iret hx hb hr (fun t ht2 hW => ⟨⟨_, (ua, uL, uo), rfl, hw, by rw [ht2]; exact hP1, va_K.moved hW.alike hK, hD⟩, hS1.F ht2⟩) hS1.2.2 dL_colour_14
  obtain ⟨ua1, e_u⟩ : ∃ z, z = u := ⟨_, rfl⟩
  subst e_u
  obtain ⟨hP1, hK1, hD1⟩ := hB
  rw [ht] at hP1
  have hJ := full0_J hP hD hk1 hFc hP1 hD1
  have hP := hJ.1
  have hD := hJ.2
  clear hP1 hD1 hK1 hk1 hz1 hFc hDc hPc ht hJ
  generalize H1 = H at hP hS ⊢
  refine lv_goto (tgt := 15) hx hb dL_colour_6 (by decide) ?_
  refine lv_iconst (v := 0) hx hb dL_colour_15 (by decide) ?_
  exact W.iret hx hb hr (fun t ht2 hW => ⟨⟨_, (ua1, uL, uo), rfl, hw, by rw [ht2]; exact hP, va_K.moved hW.alike hK, hD⟩, hS.F ht2⟩) hS.2.2 dL_colour_16
def wp_L_stays (n : Nat) (ua : Nat → Nat → Int32) (uL : Nat → Nat → Nat → Int32) (uo : Nat → Int64) (p1 : Int32) (p2 : Int32) (P : Int32 → (Nat → Nat → Int32) → (Nat → Nat → Nat → Int32) → (Nat → Int64) → Prop) : Prop :=
  wp_X3_stays n ua p1 p2 (fun ua1 => P 0 ua1 uL uo) (fun E => (E = "java/lang/ArrayIndexOutOfBoundsException" ∧ P 1 ua uL uo))
abbrev wL_stays : List Cond := Cond.codeWith yL_stays cL_stays 4 (some .int) [(0, 6, 9, 39)] :: gG
abbrev rm_L_stays : Room := { frames := 9, cells := 1, slots := 6, locals := 146 }
set_option maxHeartbeats 4000000 in
set_option maxRecDepth 100000 in
theorem c_L_stays (l : Launch) (hl0 : l.stackTraces = false) (dC : Nat → ClassId) (dI : Nat → Nat → Nat) (cA : Nat → ClassId) (sa : Nat → Nat) (ga : Nat → Nat) (gl : Nat → Nat → Nat) (go n : Nat) (sz : Nat) (ua : Nat → Nat → Int32) (uL : Nat → Nat → Nat → Int32) (uo : Nat → Int64) (p1 : Int32) (p2 : Int32) (P : Int32 → (Nat → Nat → Int32) → (Nat → Nat → Nat → Int32) → (Nat → Int64) → Prop) (hw : wp_L_stays n ua uL uo p1 p2 P) : Met l yL_stays wL_stays rm_L_stays (xP2w dC dI cA sa (wG ga gl go cA n ua uL uo) sz [.ref (ga 0), .int p1, .int p2]) (va_Qi (fun r (u : (Nat → Nat → Int32) × (Nat → Nat → Nat → Int32) × (Nat → Int64)) => P r u.1 u.2.1 u.2.2) (xB dC dI cA (fun u : (Nat → Nat → Int32) × (Nat → Nat → Nat → Int32) × (Nat → Int64) => wG ga gl go cA n u.1 u.2.1 u.2.2) (va_A (wG ga gl go cA n ua uL uo) sz)) (va_A (wG ga gl go cA n ua uL uo) sz)) 1 6 (va_A (wG ga gl go cA n ua uL uo) sz) := by
  refine xofWH (cc := cL_stays) (maxL := 4) (ret := (some .int)) (by decide) rfl ?_
  intro p e s m args below meth c s₁ B hml hv
  obtain ⟨hargs, hsz, hP, hK, hD0, hE, hN1, hN2, hN3⟩ := hv
  have hx := B.exec
  have hb := B.bytes
  have hr := B.returns
  have hts := atoms_spec (ws := wL_stays) B.pre
  have hown : s.vm.findClass RL = some m.cls := findClass_of_methodNamed B.named
  have hlocks := B.notSynchronized
  have htab := vx_table (x := yL_stays) B (hts _ List.mem_cons_self)
  subst hsz
  have hD := hD0.self (sz := s.heap.size)
  generalize hAe : va_A (wG ga gl go cA n ua uL uo) s.heap.size = A at hD ⊢
  have hA : ∀ q : Nat, s.heap.size ≤ q → A q := fun q h => by rw [← hAe]; exact Or.inr h
  have hS : va_S A s.heap s.heap [] := va_S.rf
  clear hAe hD0
  have hl := lv_entry ([.ref (ga 0), .int p1, .int p2]) (n := 4) (Nat.le_of_ble_eq_true rfl)
  rw [show entryFrame m args 4 = entryFrame m (([.ref (ga 0), .int p1, .int p2] : List Value).toArray) 4 from by rw [hargs], lg_entry_eq]
  generalize (lg_sl ([.ref (ga 0), .int p1, .int p2]) ++ List.replicate (4 - (lg_sl ([.ref (ga 0), .int p1, .int p2])).length) Slot.unset).toArray = ls at hl ⊢
  have hl : lv_has ls 4 [(0, .ref (ga 0)), (1, .int p1), (2, .int p2)] := hl
  refine lv_aload_n hx hb dL_stays_0 rfl (lv_at hl 0 rfl) ?_
  refine lv_iload_n hx hb dL_stays_1 rfl (lv_at hl 1 rfl) ?_
  refine lv_iload_n hx hb dL_stays_2 rfl (lv_at hl 2 rfl) ?_
  have hPc := hP.sub (ws' := (w_br ga gl cA n ua)) [0, 1, 2, 3] rfl
  have hDc := hD.sub (ws' := (w_br ga gl cA n ua)) [0, 1, 2, 3] (by decide) rfl
  have hFc := va_free (wc := (w_br ga gl cA n ua)) hD hS hA [0, 1, 2, 3] rfl
  refine vx_callv (vx_runV (As := [.int p1, .int p2]) (rest := []) ⟨hx, hb, hml, hown, hts⟩ (c_X3_stays l hl0 dC dI cA sa ga gl n _ ua p1 p2 _ _ hw) (gcV 2 hts m449 m446 m447 m448 m21 rfl rfl (by decide +kernel) ⟨Nat.le_of_ble_eq_true rfl, Nat.le_of_ble_eq_true rfl⟩) ⟨xbl2t, va_recv hK hPc (ci := 2) (q0 := 0) rfl rfl, fun U hU hW => ⟨rfl, by rw [hU], by rw [hU]; exact hPc, va_K.moved hW.alike hK, hDc.weaken (fun _ _ _ _ => trivial), xEmv hE hW (va_S.rf : va_S (fun _ => False) s.heap s.heap []) hU⟩⟩ rfl rfl hl.1 rfl (lv_room (Nat.le_of_ble_eq_true rfl)) dL_stays_3 ⟨Nat.le_of_ble_eq_true rfl, Nat.le_of_ble_eq_true rfl⟩) hS (fun q _ h => hFc q h) hFc (fun q _ h => h.elim) (fun E ce q9 u t H1 locs1 ht hvm hpx hB hz1 hk1 hS1 hce hcv hcl => ?_) (fun u t H1 locs ht hvm hw hB hz1 hk1 hS => ?_)
  · subst hB
    have hP1 := xkeep hP hk1
    obtain ⟨e9, hw⟩ := hpx
    subst e9
    refine vx_catch hown [] { startPc := 0, endPc := 6, handlerPc := 9, catchType := 39 } [] (by rw [htab]; rfl) (fun z hz => by cases hz) (by decide) (by decide) (hts _ (xm m414)) (xcast hE xc_ArrayIndexOutOfBoundsException) hce hcv hcl ?_
    refine lv_astore_n (lv' := [(3, .ref q9), (0, .ref (ga 0)), (1, .int p1), (2, .int p2)]) hx hb dL_stays_9 rfl hl (by decide) rfl (fun ls hl => ?_)
    refine lv_iconst (v := 1) hx hb dL_stays_10 (by decide) ?_
    exact W.iret hx hb hr (fun t ht2 hW => ⟨⟨_, (ua, uL, uo), rfl, hw, by rw [ht2]; exact hP1, va_K.moved hW.alike hK, hD⟩, hS1.F ht2⟩) hS1.2.2 dL_stays_11
  obtain ⟨ua1, e_u⟩ : ∃ z, z = u := ⟨_, rfl⟩
  subst e_u
  obtain ⟨hP1, hK1, hD1⟩ := hB
  rw [ht] at hP1
  have hJ := full0_J hP hD hk1 hFc hP1 hD1
  have hP := hJ.1
  have hD := hJ.2
  clear hP1 hD1 hK1 hk1 hz1 hFc hDc hPc ht hJ
  generalize H1 = H at hP hS ⊢
  refine lv_goto (tgt := 12) hx hb dL_stays_6 (by decide) ?_
  refine lv_iconst (v := 0) hx hb dL_stays_12 (by decide) ?_
  exact W.iret hx hb hr (fun t ht2 hW => ⟨⟨_, (ua1, uL, uo), rfl, hw, by rw [ht2]; exact hP, va_K.moved hW.alike hK, hD⟩, hS.F ht2⟩) hS.2.2 dL_stays_13
def wp_L_cover (n : Nat) (ua : Nat → Nat → Int32) (uL : Nat → Nat → Nat → Int32) (uo : Nat → Int64) (p1 : Int32) (p2 : Int32) (p3 : Int32) (P : Int32 → (Nat → Nat → Int32) → (Nat → Nat → Nat → Int32) → (Nat → Int64) → Prop) : Prop :=
  wp_X3_cover n ua p1 p2 p3 (fun ua1 => P 0 ua1 uL uo) (fun E => ((E = "java/lang/IllegalArgumentException" → P 1 ua uL uo) ∧ (¬ E = "java/lang/IllegalArgumentException" → (E = "java/lang/ArrayIndexOutOfBoundsException" ∧ P 2 ua uL uo))))
abbrev wL_cover : List Cond := Cond.codeWith yL_cover cL_cover 5 (some .int) [(0, 7, 10, 13), (0, 7, 14, 39)] :: gG
abbrev rm_L_cover : Room := { frames := 9, cells := 2, slots := 12, locals := 148 }
set_option maxHeartbeats 4000000 in
set_option maxRecDepth 100000 in
theorem c_L_cover (l : Launch) (hl0 : l.stackTraces = false) (dC : Nat → ClassId) (dI : Nat → Nat → Nat) (cA : Nat → ClassId) (sa : Nat → Nat) (ga : Nat → Nat) (gl : Nat → Nat → Nat) (go n : Nat) (sz : Nat) (ua : Nat → Nat → Int32) (uL : Nat → Nat → Nat → Int32) (uo : Nat → Int64) (p1 : Int32) (p2 : Int32) (p3 : Int32) (P : Int32 → (Nat → Nat → Int32) → (Nat → Nat → Nat → Int32) → (Nat → Int64) → Prop) (hw : wp_L_cover n ua uL uo p1 p2 p3 P) : Met l yL_cover wL_cover rm_L_cover (xP2w dC dI cA sa (wG ga gl go cA n ua uL uo) sz [.ref (ga 0), .int p1, .int p2, .int p3]) (va_Qi (fun r (u : (Nat → Nat → Int32) × (Nat → Nat → Nat → Int32) × (Nat → Int64)) => P r u.1 u.2.1 u.2.2) (xB dC dI cA (fun u : (Nat → Nat → Int32) × (Nat → Nat → Nat → Int32) × (Nat → Int64) => wG ga gl go cA n u.1 u.2.1 u.2.2) (va_A (wG ga gl go cA n ua uL uo) sz)) (va_A (wG ga gl go cA n ua uL uo) sz)) 2 12 (va_A (wG ga gl go cA n ua uL uo) sz) := by
  refine xofWH (cc := cL_cover) (maxL := 5) (ret := (some .int)) (by decide) rfl ?_
  intro p e s m args below meth c s₁ B hml hv
  obtain ⟨hargs, hsz, hP, hK, hD0, hE, hN1, hN2, hN3⟩ := hv
  have hx := B.exec
  have hb := B.bytes
  have hr := B.returns
  have hts := atoms_spec (ws := wL_cover) B.pre
  have hown : s.vm.findClass RL = some m.cls := findClass_of_methodNamed B.named
  have hlocks := B.notSynchronized
  have htab := vx_table (x := yL_cover) B (hts _ List.mem_cons_self)
  subst hsz
  have hD := hD0.self (sz := s.heap.size)
  generalize hAe : va_A (wG ga gl go cA n ua uL uo) s.heap.size = A at hD ⊢
  have hA : ∀ q : Nat, s.heap.size ≤ q → A q := fun q h => by rw [← hAe]; exact Or.inr h
  have hS : va_S A s.heap s.heap [] := va_S.rf
  clear hAe hD0
  have hl := lv_entry ([.ref (ga 0), .int p1, .int p2, .int p3]) (n := 5) (Nat.le_of_ble_eq_true rfl)
  rw [show entryFrame m args 5 = entryFrame m (([.ref (ga 0), .int p1, .int p2, .int p3] : List Value).toArray) 5 from by rw [hargs], lg_entry_eq]
  generalize (lg_sl ([.ref (ga 0), .int p1, .int p2, .int p3]) ++ List.replicate (5 - (lg_sl ([.ref (ga 0), .int p1, .int p2, .int p3])).length) Slot.unset).toArray = ls at hl ⊢
  have hl : lv_has ls 5 [(0, .ref (ga 0)), (1, .int p1), (2, .int p2), (3, .int p3)] := hl
  refine lv_aload_n hx hb dL_cover_0 rfl (lv_at hl 0 rfl) ?_
  refine lv_iload_n hx hb dL_cover_1 rfl (lv_at hl 1 rfl) ?_
  refine lv_iload_n hx hb dL_cover_2 rfl (lv_at hl 2 rfl) ?_
  refine lv_iload_n hx hb dL_cover_3 rfl (lv_at hl 3 rfl) ?_
  have hPc := hP.sub (ws' := (w_br ga gl cA n ua)) [0, 1, 2, 3] rfl
  have hDc := hD.sub (ws' := (w_br ga gl cA n ua)) [0, 1, 2, 3] (by decide) rfl
  have hFc := va_free (wc := (w_br ga gl cA n ua)) hD hS hA [0, 1, 2, 3] rfl
  refine vx_callv (vx_runV (As := [.int p1, .int p2, .int p3]) (rest := []) ⟨hx, hb, hml, hown, hts⟩ (c_X3_cover l hl0 dC dI cA sa ga gl n _ ua p1 p2 p3 _ _ hw) (gcV 3 hts m456 m453 m454 m455 m21 rfl rfl (by decide +kernel) ⟨Nat.le_of_ble_eq_true rfl, Nat.le_of_ble_eq_true rfl⟩) ⟨xbl2t, va_recv hK hPc (ci := 2) (q0 := 0) rfl rfl, fun U hU hW => ⟨rfl, by rw [hU], by rw [hU]; exact hPc, va_K.moved hW.alike hK, hDc.weaken (fun _ _ _ _ => trivial), xEmv hE hW (va_S.rf : va_S (fun _ => False) s.heap s.heap []) hU⟩⟩ rfl rfl hl.1 rfl (lv_room (Nat.le_of_ble_eq_true rfl)) dL_cover_4 ⟨Nat.le_of_ble_eq_true rfl, Nat.le_of_ble_eq_true rfl⟩) hS (fun q _ h => hFc q h) hFc (fun q _ h => h.elim) (fun E ce q9 u t H1 locs1 ht hvm hpx hB hz1 hk1 hS1 hce hcv hcl => ?_) (fun u t H1 locs ht hvm hw hB hz1 hk1 hS => ?_)
  · subst hB
    have hP1 := xkeep hP hk1
    by_cases e9 : E = "java/lang/IllegalArgumentException"
    · replace hw := hpx.1 e9
      subst e9
      refine vx_catch hown [] { startPc := 0, endPc := 7, handlerPc := 10, catchType := 13 } [{ startPc := 0, endPc := 7, handlerPc := 14, catchType := 39 }] (by rw [htab]; rfl) (fun z hz => by cases hz) (by decide) (by decide) (hts _ (xm m129)) (xcast hE xc_IllegalArgumentException) hce hcv hcl ?_
      refine lv_astore (lv' := [(4, .ref q9), (0, .ref (ga 0)), (1, .int p1), (2, .int p2), (3, .int p3)]) hx hb dL_cover_10 hl (by decide) rfl (fun ls hl => ?_)
      refine lv_iconst (v := 1) hx hb dL_cover_12 (by decide) ?_
      exact W.iret hx hb hr (fun t ht2 hW => ⟨⟨_, (ua, uL, uo), rfl, hw, by rw [ht2]; exact hP1, va_K.moved hW.alike hK, hD⟩, hS1.F ht2⟩) hS1.2.2 dL_cover_13
    · obtain ⟨e8, hw⟩ := hpx.2 e9
      subst e8
      refine vx_catch hown [{ startPc := 0, endPc := 7, handlerPc := 10, catchType := 13 }] { startPc := 0, endPc := 7, handlerPc := 14, catchType := 39 } [] (by rw [htab]; rfl) (fun z hz => by rcases List.mem_singleton.mp hz with rfl; exact Or.inr ⟨by decide, _, hts _ (xm m129), hN2⟩) (by decide) (by decide) (hts _ (xm m414)) (xcast hE xc_ArrayIndexOutOfBoundsException) hce hcv hcl ?_
      refine lv_astore (lv' := [(4, .ref q9), (0, .ref (ga 0)), (1, .int p1), (2, .int p2), (3, .int p3)]) hx hb dL_cover_14 hl (by decide) rfl (fun ls hl => ?_)
      refine lv_iconst (v := 2) hx hb dL_cover_16 (by decide) ?_
      exact W.iret hx hb hr (fun t ht2 hW => ⟨⟨_, (ua, uL, uo), rfl, hw, by rw [ht2]; exact hP1, va_K.moved hW.alike hK, hD⟩, hS1.F ht2⟩) hS1.2.2 dL_cover_17
  obtain ⟨ua1, e_u⟩ : ∃ z, z = u := ⟨_, rfl⟩
  subst e_u
  obtain ⟨hP1, hK1, hD1⟩ := hB
  rw [ht] at hP1
  have hJ := full0_J hP hD hk1 hFc hP1 hD1
  have hP := hJ.1
  have hD := hJ.2
  clear hP1 hD1 hK1 hk1 hz1 hFc hDc hPc ht hJ
  generalize H1 = H at hP hS ⊢
  refine lv_goto (tgt := 18) hx hb dL_cover_7 (by decide) ?_
  refine lv_iconst (v := 0) hx hb dL_cover_18 (by decide) ?_
  exact W.iret hx hb hr (fun t ht2 hW => ⟨⟨_, (ua1, uL, uo), rfl, hw, by rw [ht2]; exact hP, va_K.moved hW.alike hK, hD⟩, hS.F ht2⟩) hS.2.2 dL_cover_19
def wp_L_fill (n : Nat) (ua : Nat → Nat → Int32) (uL : Nat → Nat → Nat → Int32) (uo : Nat → Int64) (p1 : Int32) (p2 : Int32) (p3 : Int32) (p4 : Int32) (p5 : Int32) (P : Int32 → (Nat → Nat → Int32) → (Nat → Nat → Nat → Int32) → (Nat → Int64) → Prop) : Prop :=
  wp_X3_fill n ua p1 p2 p3 p4 p5 (fun ua1 => P 0 ua1 uL uo) (fun E => (E = "java/lang/IllegalArgumentException" ∧ P 1 ua uL uo))
abbrev wL_fill : List Cond := Cond.codeWith yL_fill cL_fill 7 (some .int) [(0, 11, 14, 13)] :: gG
abbrev rm_L_fill : Room := { frames := 8, cells := 1, slots := 6, locals := 139 }
set_option maxHeartbeats 4000000 in
set_option maxRecDepth 100000 in
theorem c_L_fill (l : Launch) (hl0 : l.stackTraces = false) (dC : Nat → ClassId) (dI : Nat → Nat → Nat) (cA : Nat → ClassId) (sa : Nat → Nat) (ga : Nat → Nat) (gl : Nat → Nat → Nat) (go n : Nat) (sz : Nat) (ua : Nat → Nat → Int32) (uL : Nat → Nat → Nat → Int32) (uo : Nat → Int64) (p1 : Int32) (p2 : Int32) (p3 : Int32) (p4 : Int32) (p5 : Int32) (P : Int32 → (Nat → Nat → Int32) → (Nat → Nat → Nat → Int32) → (Nat → Int64) → Prop) (hw : wp_L_fill n ua uL uo p1 p2 p3 p4 p5 P) : Met l yL_fill wL_fill rm_L_fill (xP2w dC dI cA sa (wG ga gl go cA n ua uL uo) sz [.ref (ga 0), .int p1, .int p2, .int p3, .int p4, .int p5]) (va_Qi (fun r (u : (Nat → Nat → Int32) × (Nat → Nat → Nat → Int32) × (Nat → Int64)) => P r u.1 u.2.1 u.2.2) (xB dC dI cA (fun u : (Nat → Nat → Int32) × (Nat → Nat → Nat → Int32) × (Nat → Int64) => wG ga gl go cA n u.1 u.2.1 u.2.2) (va_A (wG ga gl go cA n ua uL uo) sz)) (va_A (wG ga gl go cA n ua uL uo) sz)) 1 6 (va_A (wG ga gl go cA n ua uL uo) sz) := by
  refine xofWH (cc := cL_fill) (maxL := 7) (ret := (some .int)) (by decide) rfl ?_
  intro p e s m args below meth c s₁ B hml hv
  obtain ⟨hargs, hsz, hP, hK, hD0, hE, hN1, hN2, hN3⟩ := hv
  have hx := B.exec
  have hb := B.bytes
  have hr := B.returns
  have hts := atoms_spec (ws := wL_fill) B.pre
  have hown : s.vm.findClass RL = some m.cls := findClass_of_methodNamed B.named
  have hlocks := B.notSynchronized
  have htab := vx_table (x := yL_fill) B (hts _ List.mem_cons_self)
  subst hsz
  have hD := hD0.self (sz := s.heap.size)
  generalize hAe : va_A (wG ga gl go cA n ua uL uo) s.heap.size = A at hD ⊢
  have hA : ∀ q : Nat, s.heap.size ≤ q → A q := fun q h => by rw [← hAe]; exact Or.inr h
  have hS : va_S A s.heap s.heap [] := va_S.rf
  clear hAe hD0
  have hl := lv_entry ([.ref (ga 0), .int p1, .int p2, .int p3, .int p4, .int p5]) (n := 7) (Nat.le_of_ble_eq_true rfl)
  rw [show entryFrame m args 7 = entryFrame m (([.ref (ga 0), .int p1, .int p2, .int p3, .int p4, .int p5] : List Value).toArray) 7 from by rw [hargs], lg_entry_eq]
  generalize (lg_sl ([.ref (ga 0), .int p1, .int p2, .int p3, .int p4, .int p5]) ++ List.replicate (7 - (lg_sl ([.ref (ga 0), .int p1, .int p2, .int p3, .int p4, .int p5])).length) Slot.unset).toArray = ls at hl ⊢
  have hl : lv_has ls 7 [(0, .ref (ga 0)), (1, .int p1), (2, .int p2), (3, .int p3), (4, .int p4), (5, .int p5)] := hl
  refine lv_aload_n hx hb dL_fill_0 rfl (lv_at hl 0 rfl) ?_
  refine lv_iload_n hx hb dL_fill_1 rfl (lv_at hl 1 rfl) ?_
  refine lv_iload_n hx hb dL_fill_2 rfl (lv_at hl 2 rfl) ?_
  refine lv_iload_n hx hb dL_fill_3 rfl (lv_at hl 3 rfl) ?_
  refine lv_iload hx hb dL_fill_4 (lv_at hl 4 rfl) ?_
  refine lv_iload hx hb dL_fill_6 (lv_at hl 5 rfl) ?_
  have hPc := hP.sub (ws' := (w_br ga gl cA n ua)) [0, 1, 2, 3] rfl
  have hDc := hD.sub (ws' := (w_br ga gl cA n ua)) [0, 1, 2, 3] (by decide) rfl
  have hFc := va_free (wc := (w_br ga gl cA n ua)) hD hS hA [0, 1, 2, 3] rfl
  refine vx_callv (vx_runV (As := [.int p1, .int p2, .int p3, .int p4, .int p5]) (rest := []) ⟨hx, hb, hml, hown, hts⟩ (c_X3_fill l hl0 dC dI cA sa ga gl n _ ua p1 p2 p3 p4 p5 _ _ hw) (gcV 5 hts m468 m465 m466 m467 m21 rfl rfl (by decide +kernel) ⟨Nat.le_of_ble_eq_true rfl, Nat.le_of_ble_eq_true rfl⟩) ⟨xbl2t, va_recv hK hPc (ci := 2) (q0 := 0) rfl rfl, fun U hU hW => ⟨rfl, by rw [hU], by rw [hU]; exact hPc, va_K.moved hW.alike hK, hDc.weaken (fun _ _ _ _ => trivial), xEmv hE hW (va_S.rf : va_S (fun _ => False) s.heap s.heap []) hU⟩⟩ rfl rfl hl.1 rfl (lv_room (Nat.le_of_ble_eq_true rfl)) dL_fill_8 ⟨Nat.le_of_ble_eq_true rfl, Nat.le_of_ble_eq_true rfl⟩) hS (fun q _ h => hFc q h) hFc (fun q _ h => h.elim) (fun E ce q9 u t H1 locs1 ht hvm hpx hB hz1 hk1 hS1 hce hcv hcl => ?_) (fun u t H1 locs ht hvm hw hB hz1 hk1 hS => ?_)
  · subst hB
    have hP1 := xkeep hP hk1
    obtain ⟨e9, hw⟩ := hpx
    subst e9
    refine vx_catch hown [] { startPc := 0, endPc := 11, handlerPc := 14, catchType := 13 } [] (by rw [htab]; rfl) (fun z hz => by cases hz) (by decide) (by decide) (hts _ (xm m129)) (xcast hE xc_IllegalArgumentException) hce hcv hcl ?_
    refine lv_astore (lv' := [(6, .ref q9), (0, .ref (ga 0)), (1, .int p1), (2, .int p2), (3, .int p3), (4, .int p4), (5, .int p5)]) hx hb dL_fill_14 hl (by decide) rfl (fun ls hl => ?_)
    refine lv_iconst (v := 1) hx hb dL_fill_16 (by decide) ?_
    exact W.iret hx hb hr (fun t ht2 hW => ⟨⟨_, (ua, uL, uo), rfl, hw, by rw [ht2]; exact hP1, va_K.moved hW.alike hK, hD⟩, hS1.F ht2⟩) hS1.2.2 dL_fill_17
  obtain ⟨ua1, e_u⟩ : ∃ z, z = u := ⟨_, rfl⟩
  subst e_u
  obtain ⟨hP1, hK1, hD1⟩ := hB
  rw [ht] at hP1
  have hJ := full0_J hP hD hk1 hFc hP1 hD1
  have hP := hJ.1
  have hD := hJ.2
  clear hP1 hD1 hK1 hk1 hz1 hFc hDc hPc ht hJ
  generalize H1 = H at hP hS ⊢
  refine lv_goto (tgt := 18) hx hb dL_fill_11 (by decide) ?_
  refine lv_iconst (v := 0) hx hb dL_fill_18 (by decide) ?_
  exact W.iret hx hb hr (fun t ht2 hW => ⟨⟨_, (ua1, uL, uo), rfl, hw, by rw [ht2]; exact hP, va_K.moved hW.alike hK, hD⟩, hS.F ht2⟩) hS.2.2 dL_fill_19
def wp_L_mark (n : Nat) (k : Nat) (ua : Nat → Nat → Int32) (uL : Nat → Nat → Nat → Int32) (uo : Nat → Int64) (p1 : Int32) (p2 : Int32) (p3 : Int32) (P : Int32 → (Nat → Nat → Int32) → (Nat → Nat → Nat → Int32) → (Nat → Int64) → Prop) : Prop :=
  wp_X3_mark n k ua (uL k) p1 p2 p3 (fun r ua1 ub1 => P 0 ua1 (va_up uL k ub1) (vp_updL uo 0 r.toInt64)) (fun E => (E = "java/lang/IllegalArgumentException" ∧ P 1 ua uL uo))
abbrev wL_mark : List Cond := Cond.codeWith yL_mark cL_mark 6 (some .int) [(0, 12, 15, 13)] :: gG
abbrev rm_L_mark : Room := { frames := 8, cells := 3, slots := 18, locals := 181 }
set_option maxHeartbeats 4000000 in
set_option maxRecDepth 100000 in
theorem c_L_mark (l : Launch) (hl0 : l.stackTraces = false) (dC : Nat → ClassId) (dI : Nat → Nat → Nat) (cA : Nat → ClassId) (sa : Nat → Nat) (ga : Nat → Nat) (gl : Nat → Nat → Nat) (go n : Nat) (k : Nat) (hk : k < 6) (sz : Nat) (ua : Nat → Nat → Int32) (uL : Nat → Nat → Nat → Int32) (uo : Nat → Int64) (p1 : Int32) (p2 : Int32) (p3 : Int32) (P : Int32 → (Nat → Nat → Int32) → (Nat → Nat → Nat → Int32) → (Nat → Int64) → Prop) (hw : wp_L_mark n k ua uL uo p1 p2 p3 P) : Met l yL_mark wL_mark rm_L_mark (xP2w dC dI cA sa (wG ga gl go cA n ua uL uo) sz [.ref (ga 0), .int p1, .int p2, .int p3, .ref go]) (va_Qi (fun r (u : (Nat → Nat → Int32) × (Nat → Nat → Nat → Int32) × (Nat → Int64)) => P r u.1 u.2.1 u.2.2) (xB dC dI cA (fun u : (Nat → Nat → Int32) × (Nat → Nat → Nat → Int32) × (Nat → Int64) => wG ga gl go cA n u.1 u.2.1 u.2.2) (va_A (wG ga gl go cA n ua uL uo) sz)) (va_A (wG ga gl go cA n ua uL uo) sz)) 3 18 (va_A (wG ga gl go cA n ua uL uo) sz) := by
  refine xofWH (cc := cL_mark) (maxL := 6) (ret := (some .int)) (by decide) rfl ?_
  intro p e s m args below meth c s₁ B hml hv
  obtain ⟨hargs, hsz, hP, hK, hD0, hE, hN1, hN2, hN3⟩ := hv
  have hx := B.exec
  have hb := B.bytes
  have hr := B.returns
  have hts := atoms_spec (ws := wL_mark) B.pre
  have hown : s.vm.findClass RL = some m.cls := findClass_of_methodNamed B.named
  have hlocks := B.notSynchronized
  have htab := vx_table (x := yL_mark) B (hts _ List.mem_cons_self)
  subst hsz
  have hD := hD0.self (sz := s.heap.size)
  generalize hAe : va_A (wG ga gl go cA n ua uL uo) s.heap.size = A at hD ⊢
  have hA : ∀ q : Nat, s.heap.size ≤ q → A q := fun q h => by rw [← hAe]; exact Or.inr h
  have hS : va_S A s.heap s.heap [] := va_S.rf
  clear hAe hD0
  have hl := lv_entry ([.ref (ga 0), .int p1, .int p2, .int p3, .ref go]) (n := 6) (Nat.le_of_ble_eq_true rfl)
  rw [show entryFrame m args 6 = entryFrame m (([.ref (ga 0), .int p1, .int p2, .int p3, .ref go] : List Value).toArray) 6 from by rw [hargs], lg_entry_eq]
  generalize (lg_sl ([.ref (ga 0), .int p1, .int p2, .int p3, .ref go]) ++ List.replicate (6 - (lg_sl ([.ref (ga 0), .int p1, .int p2, .int p3, .ref go])).length) Slot.unset).toArray = ls at hl ⊢
  have hl : lv_has ls 6 [(0, .ref (ga 0)), (1, .int p1), (2, .int p2), (3, .int p3), (4, .ref go)] := hl
  refine lv_aload hx hb dL_mark_0 (lv_at hl 4 rfl) ?_
  refine lv_iconst (v := 0) hx hb dL_mark_2 (by decide) ?_
  refine lv_aload_n hx hb dL_mark_3 rfl (lv_at hl 0 rfl) ?_
  refine lv_iload_n hx hb dL_mark_4 rfl (lv_at hl 1 rfl) ?_
  refine lv_iload_n hx hb dL_mark_5 rfl (lv_at hl 2 rfl) ?_
  refine lv_iload_n hx hb dL_mark_6 rfl (lv_at hl 3 rfl) ?_
  have hPc := full1_P hk hP
  have hDc := full1_D (D := (dC, dI)) (H := s.heap) hk hD
  have hFc := full1_F (D := (dC, dI)) hk hD hS hA
  refine vx_calli (vx_runV (As := [.int p1, .int p2, .int p3]) (rest := [.int 0, .ref go]) ⟨hx, hb, hml, hown, hts⟩ (c_X3_mark l hl0 dC dI cA sa ga gl n k _ ua (uL k) p1 p2 p3 _ _ hw) (gcV 3 hts m475 m472 m473 m474 m21 rfl rfl (by decide +kernel) ⟨Nat.le_of_ble_eq_true rfl, Nat.le_of_ble_eq_true rfl⟩) ⟨xbl2t, va_recv hK hPc (ci := 2) (q0 := 0) rfl rfl, fun U hU hW => ⟨rfl, by rw [hU], by rw [hU]; exact hPc, va_K.moved hW.alike hK, hDc.weaken (fun _ _ _ _ => trivial), xEmv hE hW (va_S.rf : va_S (fun _ => False) s.heap s.heap []) hU⟩⟩ rfl rfl hl.1 rfl (lv_room (Nat.le_of_ble_eq_true rfl)) dL_mark_7 ⟨Nat.le_of_ble_eq_true rfl, Nat.le_of_ble_eq_true rfl⟩) hS (fun q _ h => hFc q h) hFc (fun q _ h => h.elim) (fun E ce q9 u t H1 locs1 ht hvm hpx hB hz1 hk1 hS1 hce hcv hcl => ?_) (fun r u t H1 locs ht hvm hw hB hz1 hk1 hS => ?_)
  · subst hB
    have hP1 := xkeep hP hk1
    obtain ⟨e9, hw⟩ := hpx
    subst e9
    refine vx_catch hown [] { startPc := 0, endPc := 12, handlerPc := 15, catchType := 13 } [] (by rw [htab]; rfl) (fun z hz => by cases hz) (by decide) (by decide) (hts _ (xm m129)) (xcast hE xc_IllegalArgumentException) hce hcv hcl ?_
    refine lv_astore (lv' := [(5, .ref q9), (0, .ref (ga 0)), (1, .int p1), (2, .int p2), (3, .int p3), (4, .ref go)]) hx hb dL_mark_15 hl (by decide) rfl (fun ls hl => ?_)
    refine lv_iconst (v := 1) hx hb dL_mark_17 (by decide) ?_
    exact W.iret hx hb hr (fun t ht2 hW => ⟨⟨_, (ua, uL, uo), rfl, hw, by rw [ht2]; exact hP1, va_K.moved hW.alike hK, hD⟩, hS1.F ht2⟩) hS1.2.2 dL_mark_18
  obtain ⟨ua1, ub1⟩ := u
  obtain ⟨hP1, hK1, hD1⟩ := hB
  rw [ht] at hP1
  have hJ := full1_J hk hP hD hk1 hFc hP1 hD1
  have hP := hJ.1
  have hD := hJ.2
  clear hP1 hD1 hK1 hk1 hz1 hFc hDc hPc ht hJ
  generalize H1 = H at hP hS ⊢
  refine lv_i2l hx hb dL_mark_10 rfl ?_
  refine va_last hx hb hK hP hD hS 40 3 rfl rfl (xin (by decide)) dL_mark_11 (fun H locs hP hD hS => ?_)
  have hP : va_P (dC, dI) vwCl (wG ga gl go cA n ua1 (va_up uL k ub1) (vp_updL uo 0 r.toInt64)) H := hP
  have hD : va_D A (wG ga gl go cA n ua1 (va_up uL k ub1) (vp_updL uo 0 r.toInt64)) := hD
  refine lv_goto (tgt := 19) hx hb dL_mark_12 (by decide) ?_
  refine lv_iconst (v := 0) hx hb dL_mark_19 (by decide) ?_
  exact W.iret hx hb hr (fun t ht2 hW => ⟨⟨_, (ua1, (va_up uL k ub1), (vp_updL uo 0 r.toInt64)), rfl, hw, by rw [ht2]; exact hP, va_K.moved hW.alike hK, hD⟩, hS.F ht2⟩) hS.2.2 dL_mark_20
def wp_L_point (n : Nat) (k : Nat) (ua : Nat → Nat → Int32) (uL : Nat → Nat → Nat → Int32) (uo : Nat → Int64) (p1 : Int32) (p2 : Int32) (p3 : Int32) (P : Int32 → (Nat → Nat → Int32) → (Nat → Nat → Nat → Int32) → (Nat → Int64) → Prop) : Prop :=
  wp_X3_point n k ua (uL k) p1 p2 p3 (fun r => P 0 ua uL (vp_updL uo 0 r.toInt64)) (fun E => (E = "java/lang/ArrayIndexOutOfBoundsException" ∧ P 1 ua uL uo))
abbrev wL_point : List Cond := Cond.codeWith yL_point cL_point 6 (some .int) [(0, 12, 15, 39)] :: gG
abbrev rm_L_point : Room := { frames := 9, cells := 2, slots := 12, locals := 148 }
set_option maxHeartbeats 4000000 in
set_option maxRecDepth 100000 in
theorem c_L_point (l : Launch) (hl0 : l.stackTraces = false) (dC : Nat → ClassId) (dI : Nat → Nat → Nat) (cA : Nat → ClassId) (sa : Nat → Nat) (ga : Nat → Nat) (gl : Nat → Nat → Nat) (go n : Nat) (k : Nat) (hk : k < 6) (sz : Nat) (ua : Nat → Nat → Int32) (uL : Nat → Nat → Nat → Int32) (uo : Nat → Int64) (p1 : Int32) (p2 : Int32) (p3 : Int32) (P : Int32 → (Nat → Nat → Int32) → (Nat → Nat → Nat → Int32) → (Nat → Int64) → Prop) (hw : wp_L_point n k ua uL uo p1 p2 p3 P) : Met l yL_point wL_point rm_L_point (xP2w dC dI cA sa (wG ga gl go cA n ua uL uo) sz [.ref (ga 0), .int p1, .int p2, .int p3, .ref go]) (va_Qi (fun r (u : (Nat → Nat → Int32) × (Nat → Nat → Nat → Int32) × (Nat → Int64)) => P r u.1 u.2.1 u.2.2) (xB dC dI cA (fun u : (Nat → Nat → Int32) × (Nat → Nat → Nat → Int32) × (Nat → Int64) => wG ga gl go cA n u.1 u.2.1 u.2.2) (va_A (wG ga gl go cA n ua uL uo) sz)) (va_A (wG ga gl go cA n ua uL uo) sz)) 2 12 (va_A (wG ga gl go cA n ua uL uo) sz) := by
  refine xofWH (cc := cL_point) (maxL := 6) (ret := (some .int)) (by decide) rfl ?_
  intro p e s m args below meth c s₁ B hml hv
  obtain ⟨hargs, hsz, hP, hK, hD0, hE, hN1, hN2, hN3⟩ := hv
  have hx := B.exec
  have hb := B.bytes
  have hr := B.returns
  have hts := atoms_spec (ws := wL_point) B.pre
  have hown : s.vm.findClass RL = some m.cls := findClass_of_methodNamed B.named
  have hlocks := B.notSynchronized
  have htab := vx_table (x := yL_point) B (hts _ List.mem_cons_self)
  subst hsz
  have hD := hD0.self (sz := s.heap.size)
  generalize hAe : va_A (wG ga gl go cA n ua uL uo) s.heap.size = A at hD ⊢
  have hA : ∀ q : Nat, s.heap.size ≤ q → A q := fun q h => by rw [← hAe]; exact Or.inr h
  have hS : va_S A s.heap s.heap [] := va_S.rf
  clear hAe hD0
  have hl := lv_entry ([.ref (ga 0), .int p1, .int p2, .int p3, .ref go]) (n := 6) (Nat.le_of_ble_eq_true rfl)
  rw [show entryFrame m args 6 = entryFrame m (([.ref (ga 0), .int p1, .int p2, .int p3, .ref go] : List Value).toArray) 6 from by rw [hargs], lg_entry_eq]
  generalize (lg_sl ([.ref (ga 0), .int p1, .int p2, .int p3, .ref go]) ++ List.replicate (6 - (lg_sl ([.ref (ga 0), .int p1, .int p2, .int p3, .ref go])).length) Slot.unset).toArray = ls at hl ⊢
  have hl : lv_has ls 6 [(0, .ref (ga 0)), (1, .int p1), (2, .int p2), (3, .int p3), (4, .ref go)] := hl
  refine lv_aload hx hb dL_point_0 (lv_at hl 4 rfl) ?_
  refine lv_iconst (v := 0) hx hb dL_point_2 (by decide) ?_
  refine lv_aload_n hx hb dL_point_3 rfl (lv_at hl 0 rfl) ?_
  refine lv_iload_n hx hb dL_point_4 rfl (lv_at hl 1 rfl) ?_
  refine lv_iload_n hx hb dL_point_5 rfl (lv_at hl 2 rfl) ?_
  refine lv_iload_n hx hb dL_point_6 rfl (lv_at hl 3 rfl) ?_
  have hPc := full1_P hk hP
  refine vx_calli (vx_runV (As := [.int p1, .int p2, .int p3]) (rest := [.int 0, .ref go]) ⟨hx, hb, hml, hown, hts⟩ (c_X3_point l hl0 dC dI cA sa ga gl n k ua (uL k) p1 p2 p3 _ _ hw) (gcV 3 hts m482 m479 m480 m481 m21 rfl rfl (by decide +kernel) ⟨Nat.le_of_ble_eq_true rfl, Nat.le_of_ble_eq_true rfl⟩) ⟨xbl1t, va_recv hK hPc (ci := 2) (q0 := 0) rfl rfl, fun U hU hW => ⟨rfl, by rw [hU]; exact hPc, va_K.moved hW.alike hK, xEmv hE hW (va_S.rf : va_S (fun _ => False) s.heap s.heap []) hU⟩⟩ rfl rfl hl.1 rfl (lv_room (Nat.le_of_ble_eq_true rfl)) dL_point_7 ⟨Nat.le_of_ble_eq_true rfl, Nat.le_of_ble_eq_true rfl⟩) hS (fun q _ h => h.elim) (fun q h => h.elim) (fun q _ h => h.elim) (fun E ce q9 u t H1 locs1 ht hvm hpx hB hz1 hk1 hS1 hce hcv hcl => ?_) (fun r u t H1 locs ht hvm hw hB hz1 hk1 hS => ?_)
  · subst hB
    have hP1 := xkeep hP hk1
    obtain ⟨e9, hw⟩ := hpx
    subst e9
    refine vx_catch hown [] { startPc := 0, endPc := 12, handlerPc := 15, catchType := 39 } [] (by rw [htab]; rfl) (fun z hz => by cases hz) (by decide) (by decide) (hts _ (xm m414)) (xcast hE xc_ArrayIndexOutOfBoundsException) hce hcv hcl ?_
    refine lv_astore (lv' := [(5, .ref q9), (0, .ref (ga 0)), (1, .int p1), (2, .int p2), (3, .int p3), (4, .ref go)]) hx hb dL_point_15 hl (by decide) rfl (fun ls hl => ?_)
    refine lv_iconst (v := 1) hx hb dL_point_17 (by decide) ?_
    exact W.iret hx hb hr (fun t ht2 hW => ⟨⟨_, (ua, uL, uo), rfl, hw, by rw [ht2]; exact hP1, va_K.moved hW.alike hK, hD⟩, hS1.F ht2⟩) hS1.2.2 dL_point_18
  replace hP := xkeep hP hk1
  clear ht hB hz1 hk1 hPc
  generalize H1 = H at hP hS ⊢
  refine lv_i2l hx hb dL_point_10 rfl ?_
  refine va_last hx hb hK hP hD hS 40 3 rfl rfl (xin (by decide)) dL_point_11 (fun H locs hP hD hS => ?_)
  have hP : va_P (dC, dI) vwCl (wG ga gl go cA n ua uL (vp_updL uo 0 r.toInt64)) H := hP
  have hD : va_D A (wG ga gl go cA n ua uL (vp_updL uo 0 r.toInt64)) := hD
  refine lv_goto (tgt := 19) hx hb dL_point_12 (by decide) ?_
  refine lv_iconst (v := 0) hx hb dL_point_19 (by decide) ?_
  exact W.iret hx hb hr (fun t ht2 hW => ⟨⟨_, (ua, uL, (vp_updL uo 0 r.toInt64)), rfl, hw, by rw [ht2]; exact hP, va_K.moved hW.alike hK, hD⟩, hS.F ht2⟩) hS.2.2 dL_point_20
def wp_L_alpha (n : Nat) (k : Nat) (ua : Nat → Nat → Int32) (uL : Nat → Nat → Nat → Int32) (uo : Nat → Int64) (p1 : Int32) (p2 : Int32) (p3 : Int32) (P : Int32 → (Nat → Nat → Int32) → (Nat → Nat → Nat → Int32) → (Nat → Int64) → Prop) : Prop :=
  wp_X3_alpha n k ua (uL k) p1 p2 p3 (fun r => P 0 ua uL (vp_updL uo 0 r.toInt64)) (fun E => ((E = "java/lang/ArrayIndexOutOfBoundsException" → P 1 ua uL uo) ∧ (¬ E = "java/lang/ArrayIndexOutOfBoundsException" → (E = "java/lang/IllegalArgumentException" ∧ P 2 ua uL uo))))
abbrev wL_alpha : List Cond := Cond.codeWith yL_alpha cL_alpha 6 (some .int) [(0, 12, 15, 39), (0, 12, 19, 13)] :: gG
abbrev rm_L_alpha : Room := { frames := 9, cells := 2, slots := 12, locals := 149 }
set_option maxHeartbeats 4000000 in
set_option maxRecDepth 100000 in
theorem c_L_alpha (l : Launch) (hl0 : l.stackTraces = false) (dC : Nat → ClassId) (dI : Nat → Nat → Nat) (cA : Nat → ClassId) (sa : Nat → Nat) (ga : Nat → Nat) (gl : Nat → Nat → Nat) (go n : Nat) (k : Nat) (hk : k < 6) (sz : Nat) (ua : Nat → Nat → Int32) (uL : Nat → Nat → Nat → Int32) (uo : Nat → Int64) (p1 : Int32) (p2 : Int32) (p3 : Int32) (P : Int32 → (Nat → Nat → Int32) → (Nat → Nat → Nat → Int32) → (Nat → Int64) → Prop) (hw : wp_L_alpha n k ua uL uo p1 p2 p3 P) : Met l yL_alpha wL_alpha rm_L_alpha (xP2w dC dI cA sa (wG ga gl go cA n ua uL uo) sz [.ref (ga 0), .int p1, .int p2, .int p3, .ref go]) (va_Qi (fun r (u : (Nat → Nat → Int32) × (Nat → Nat → Nat → Int32) × (Nat → Int64)) => P r u.1 u.2.1 u.2.2) (xB dC dI cA (fun u : (Nat → Nat → Int32) × (Nat → Nat → Nat → Int32) × (Nat → Int64) => wG ga gl go cA n u.1 u.2.1 u.2.2) (va_A (wG ga gl go cA n ua uL uo) sz)) (va_A (wG ga gl go cA n ua uL uo) sz)) 2 12 (va_A (wG ga gl go cA n ua uL uo) sz) := by
  refine xofWH (cc := cL_alpha) (maxL := 6) (ret := (some .int)) (by decide) rfl ?_
  intro p e s m args below meth c s₁ B hml hv
  obtain ⟨hargs, hsz, hP, hK, hD0, hE, hN1, hN2, hN3⟩ := hv
  have hx := B.exec
  have hb := B.bytes
  have hr := B.returns
  have hts := atoms_spec (ws := wL_alpha) B.pre
  have hown : s.vm.findClass RL = some m.cls := findClass_of_methodNamed B.named
  have hlocks := B.notSynchronized
  have htab := vx_table (x := yL_alpha) B (hts _ List.mem_cons_self)
  subst hsz
  have hD := hD0.self (sz := s.heap.size)
  generalize hAe : va_A (wG ga gl go cA n ua uL uo) s.heap.size = A at hD ⊢
  have hA : ∀ q : Nat, s.heap.size ≤ q → A q := fun q h => by rw [← hAe]; exact Or.inr h
  have hS : va_S A s.heap s.heap [] := va_S.rf
  clear hAe hD0
  have hl := lv_entry ([.ref (ga 0), .int p1, .int p2, .int p3, .ref go]) (n := 6) (Nat.le_of_ble_eq_true rfl)
  rw [show entryFrame m args 6 = entryFrame m (([.ref (ga 0), .int p1, .int p2, .int p3, .ref go] : List Value).toArray) 6 from by rw [hargs], lg_entry_eq]
  generalize (lg_sl ([.ref (ga 0), .int p1, .int p2, .int p3, .ref go]) ++ List.replicate (6 - (lg_sl ([.ref (ga 0), .int p1, .int p2, .int p3, .ref go])).length) Slot.unset).toArray = ls at hl ⊢
  have hl : lv_has ls 6 [(0, .ref (ga 0)), (1, .int p1), (2, .int p2), (3, .int p3), (4, .ref go)] := hl
  refine lv_aload hx hb dL_alpha_0 (lv_at hl 4 rfl) ?_
  refine lv_iconst (v := 0) hx hb dL_alpha_2 (by decide) ?_
  refine lv_aload_n hx hb dL_alpha_3 rfl (lv_at hl 0 rfl) ?_
  refine lv_iload_n hx hb dL_alpha_4 rfl (lv_at hl 1 rfl) ?_
  refine lv_iload_n hx hb dL_alpha_5 rfl (lv_at hl 2 rfl) ?_
  refine lv_iload_n hx hb dL_alpha_6 rfl (lv_at hl 3 rfl) ?_
  have hPc := full1_P hk hP
  refine vx_calli (vx_runV (As := [.int p1, .int p2, .int p3]) (rest := [.int 0, .ref go]) ⟨hx, hb, hml, hown, hts⟩ (c_X3_alpha l hl0 dC dI cA sa ga gl n k ua (uL k) p1 p2 p3 _ _ hw) (gcV 3 hts m491 m488 m489 m490 m21 rfl rfl (by decide +kernel) ⟨Nat.le_of_ble_eq_true rfl, Nat.le_of_ble_eq_true rfl⟩) ⟨xbl1t, va_recv hK hPc (ci := 2) (q0 := 0) rfl rfl, fun U hU hW => ⟨rfl, by rw [hU]; exact hPc, va_K.moved hW.alike hK, xEmv hE hW (va_S.rf : va_S (fun _ => False) s.heap s.heap []) hU⟩⟩ rfl rfl hl.1 rfl (lv_room (Nat.le_of_ble_eq_true rfl)) dL_alpha_7 ⟨Nat.le_of_ble_eq_true rfl, Nat.le_of_ble_eq_true rfl⟩) hS (fun q _ h => h.elim) (fun q h => h.elim) (fun q _ h => h.elim) (fun E ce q9 u t H1 locs1 ht hvm hpx hB hz1 hk1 hS1 hce hcv hcl => ?_) (fun r u t H1 locs ht hvm hw hB hz1 hk1 hS => ?_)
  · subst hB
    have hP1 := xkeep hP hk1
    by_cases e9 : E = "java/lang/ArrayIndexOutOfBoundsException"
    · replace hw := hpx.1 e9
      subst e9
      refine vx_catch hown [] { startPc := 0, endPc := 12, handlerPc := 15, catchType := 39 } [{ startPc := 0, endPc := 12, handlerPc := 19, catchType := 13 }] (by rw [htab]; rfl) (fun z hz => by cases hz) (by decide) (by decide) (hts _ (xm m414)) (xcast hE xc_ArrayIndexOutOfBoundsException) hce hcv hcl ?_
      refine lv_astore (lv' := [(5, .ref q9), (0, .ref (ga 0)), (1, .int p1), (2, .int p2), (3, .int p3), (4, .ref go)]) hx hb dL_alpha_15 hl (by decide) rfl (fun ls hl => ?_)
      refine lv_iconst (v := 1) hx hb dL_alpha_17 (by decide) ?_
      exact W.iret hx hb hr (fun t ht2 hW => ⟨⟨_, (ua, uL, uo), rfl, hw, by rw [ht2]; exact hP1, va_K.moved hW.alike hK, hD⟩, hS1.F ht2⟩) hS1.2.2 dL_alpha_18
    · obtain ⟨e8, hw⟩ := hpx.2 e9
      subst e8
      refine vx_catch hown [{ startPc := 0, endPc := 12, handlerPc := 15, catchType := 39 }] { startPc := 0, endPc := 12, handlerPc := 19, catchType := 13 } [] (by rw [htab]; rfl) (fun z hz => by rcases List.mem_singleton.mp hz with rfl; exact Or.inr ⟨by decide, _, hts _ (xm m414), hN3⟩) (by decide) (by decide) (hts _ (xm m129)) (xcast hE xc_IllegalArgumentException) hce hcv hcl ?_
      refine lv_astore (lv' := [(5, .ref q9), (0, .ref (ga 0)), (1, .int p1), (2, .int p2), (3, .int p3), (4, .ref go)]) hx hb dL_alpha_19 hl (by decide) rfl (fun ls hl => ?_)
      refine lv_iconst (v := 2) hx hb dL_alpha_21 (by decide) ?_
      exact W.iret hx hb hr (fun t ht2 hW => ⟨⟨_, (ua, uL, uo), rfl, hw, by rw [ht2]; exact hP1, va_K.moved hW.alike hK, hD⟩, hS1.F ht2⟩) hS1.2.2 dL_alpha_22
  replace hP := xkeep hP hk1
  clear ht hB hz1 hk1 hPc
  generalize H1 = H at hP hS ⊢
  refine lv_i2l hx hb dL_alpha_10 rfl ?_
  refine va_last hx hb hK hP hD hS 40 3 rfl rfl (xin (by decide)) dL_alpha_11 (fun H locs hP hD hS => ?_)
  have hP : va_P (dC, dI) vwCl (wG ga gl go cA n ua uL (vp_updL uo 0 r.toInt64)) H := hP
  have hD : va_D A (wG ga gl go cA n ua uL (vp_updL uo 0 r.toInt64)) := hD
  refine lv_goto (tgt := 23) hx hb dL_alpha_12 (by decide) ?_
  refine lv_iconst (v := 0) hx hb dL_alpha_23 (by decide) ?_
  exact W.iret hx hb hr (fun t ht2 hW => ⟨⟨_, (ua, uL, (vp_updL uo 0 r.toInt64)), rfl, hw, by rw [ht2]; exact hP, va_K.moved hW.alike hK, hD⟩, hS.F ht2⟩) hS.2.2 dL_alpha_24
def wp_L_paper (n : Nat) (k : Nat) (ua : Nat → Nat → Int32) (uL : Nat → Nat → Nat → Int32) (uo : Nat → Int64) (p1 : Int32) (p2 : Int32) (p3 : Int32) (P : Int32 → (Nat → Nat → Int32) → (Nat → Nat → Nat → Int32) → (Nat → Int64) → Prop) : Prop :=
  wp_X3_paper n k ua (uL k) p1 p2 p3 (fun r => P 0 ua uL (vp_updL uo 0 r.toInt64)) (fun E => (E = "java/lang/ArrayIndexOutOfBoundsException" ∧ P 1 ua uL uo))
abbrev wL_paper : List Cond := Cond.codeWith yL_paper cL_paper 6 (some .int) [(0, 12, 15, 39)] :: gG
abbrev rm_L_paper : Room := { frames := 9, cells := 2, slots := 12, locals := 150 }
set_option maxHeartbeats 4000000 in
set_option maxRecDepth 100000 in
theorem c_L_paper (l : Launch) (hl0 : l.stackTraces = false) (dC : Nat → ClassId) (dI : Nat → Nat → Nat) (cA : Nat → ClassId) (sa : Nat → Nat) (ga : Nat → Nat) (gl : Nat → Nat → Nat) (go n : Nat) (k : Nat) (hk : k < 6) (sz : Nat) (ua : Nat → Nat → Int32) (uL : Nat → Nat → Nat → Int32) (uo : Nat → Int64) (p1 : Int32) (p2 : Int32) (p3 : Int32) (P : Int32 → (Nat → Nat → Int32) → (Nat → Nat → Nat → Int32) → (Nat → Int64) → Prop) (hw : wp_L_paper n k ua uL uo p1 p2 p3 P) : Met l yL_paper wL_paper rm_L_paper (xP2w dC dI cA sa (wG ga gl go cA n ua uL uo) sz [.ref (ga 0), .int p1, .int p2, .int p3, .ref go]) (va_Qi (fun r (u : (Nat → Nat → Int32) × (Nat → Nat → Nat → Int32) × (Nat → Int64)) => P r u.1 u.2.1 u.2.2) (xB dC dI cA (fun u : (Nat → Nat → Int32) × (Nat → Nat → Nat → Int32) × (Nat → Int64) => wG ga gl go cA n u.1 u.2.1 u.2.2) (va_A (wG ga gl go cA n ua uL uo) sz)) (va_A (wG ga gl go cA n ua uL uo) sz)) 2 12 (va_A (wG ga gl go cA n ua uL uo) sz) := by
  refine xofWH (cc := cL_paper) (maxL := 6) (ret := (some .int)) (by decide) rfl ?_
  intro p e s m args below meth c s₁ B hml hv
  obtain ⟨hargs, hsz, hP, hK, hD0, hE, hN1, hN2, hN3⟩ := hv
  have hx := B.exec
  have hb := B.bytes
  have hr := B.returns
  have hts := atoms_spec (ws := wL_paper) B.pre
  have hown : s.vm.findClass RL = some m.cls := findClass_of_methodNamed B.named
  have hlocks := B.notSynchronized
  have htab := vx_table (x := yL_paper) B (hts _ List.mem_cons_self)
  subst hsz
  have hD := hD0.self (sz := s.heap.size)
  generalize hAe : va_A (wG ga gl go cA n ua uL uo) s.heap.size = A at hD ⊢
  have hA : ∀ q : Nat, s.heap.size ≤ q → A q := fun q h => by rw [← hAe]; exact Or.inr h
  have hS : va_S A s.heap s.heap [] := va_S.rf
  clear hAe hD0
  have hl := lv_entry ([.ref (ga 0), .int p1, .int p2, .int p3, .ref go]) (n := 6) (Nat.le_of_ble_eq_true rfl)
  rw [show entryFrame m args 6 = entryFrame m (([.ref (ga 0), .int p1, .int p2, .int p3, .ref go] : List Value).toArray) 6 from by rw [hargs], lg_entry_eq]
  generalize (lg_sl ([.ref (ga 0), .int p1, .int p2, .int p3, .ref go]) ++ List.replicate (6 - (lg_sl ([.ref (ga 0), .int p1, .int p2, .int p3, .ref go])).length) Slot.unset).toArray = ls at hl ⊢
  have hl : lv_has ls 6 [(0, .ref (ga 0)), (1, .int p1), (2, .int p2), (3, .int p3), (4, .ref go)] := hl
  refine lv_aload hx hb dL_paper_0 (lv_at hl 4 rfl) ?_
  refine lv_iconst (v := 0) hx hb dL_paper_2 (by decide) ?_
  refine lv_aload_n hx hb dL_paper_3 rfl (lv_at hl 0 rfl) ?_
  refine lv_iload_n hx hb dL_paper_4 rfl (lv_at hl 1 rfl) ?_
  refine lv_iload_n hx hb dL_paper_5 rfl (lv_at hl 2 rfl) ?_
  refine lv_iload_n hx hb dL_paper_6 rfl (lv_at hl 3 rfl) ?_
  have hPc := full1_P hk hP
  refine vx_calli (vx_runV (As := [.int p1, .int p2, .int p3]) (rest := [.int 0, .ref go]) ⟨hx, hb, hml, hown, hts⟩ (c_X3_paper l hl0 dC dI cA sa ga gl n k ua (uL k) p1 p2 p3 _ _ hw) (gcV 3 hts m500 m497 m498 m499 m21 rfl rfl (by decide +kernel) ⟨Nat.le_of_ble_eq_true rfl, Nat.le_of_ble_eq_true rfl⟩) ⟨xbl1t, va_recv hK hPc (ci := 2) (q0 := 0) rfl rfl, fun U hU hW => ⟨rfl, by rw [hU]; exact hPc, va_K.moved hW.alike hK, xEmv hE hW (va_S.rf : va_S (fun _ => False) s.heap s.heap []) hU⟩⟩ rfl rfl hl.1 rfl (lv_room (Nat.le_of_ble_eq_true rfl)) dL_paper_7 ⟨Nat.le_of_ble_eq_true rfl, Nat.le_of_ble_eq_true rfl⟩) hS (fun q _ h => h.elim) (fun q h => h.elim) (fun q _ h => h.elim) (fun E ce q9 u t H1 locs1 ht hvm hpx hB hz1 hk1 hS1 hce hcv hcl => ?_) (fun r u t H1 locs ht hvm hw hB hz1 hk1 hS => ?_)
  · subst hB
    have hP1 := xkeep hP hk1
    obtain ⟨e9, hw⟩ := hpx
    subst e9
    refine vx_catch hown [] { startPc := 0, endPc := 12, handlerPc := 15, catchType := 39 } [] (by rw [htab]; rfl) (fun z hz => by cases hz) (by decide) (by decide) (hts _ (xm m414)) (xcast hE xc_ArrayIndexOutOfBoundsException) hce hcv hcl ?_
    refine lv_astore (lv' := [(5, .ref q9), (0, .ref (ga 0)), (1, .int p1), (2, .int p2), (3, .int p3), (4, .ref go)]) hx hb dL_paper_15 hl (by decide) rfl (fun ls hl => ?_)
    refine lv_iconst (v := 1) hx hb dL_paper_17 (by decide) ?_
    exact W.iret hx hb hr (fun t ht2 hW => ⟨⟨_, (ua, uL, uo), rfl, hw, by rw [ht2]; exact hP1, va_K.moved hW.alike hK, hD⟩, hS1.F ht2⟩) hS1.2.2 dL_paper_18
  replace hP := xkeep hP hk1
  clear ht hB hz1 hk1 hPc
  generalize H1 = H at hP hS ⊢
  refine lv_i2l hx hb dL_paper_10 rfl ?_
  refine va_last hx hb hK hP hD hS 40 3 rfl rfl (xin (by decide)) dL_paper_11 (fun H locs hP hD hS => ?_)
  have hP : va_P (dC, dI) vwCl (wG ga gl go cA n ua uL (vp_updL uo 0 r.toInt64)) H := hP
  have hD : va_D A (wG ga gl go cA n ua uL (vp_updL uo 0 r.toInt64)) := hD
  refine lv_goto (tgt := 19) hx hb dL_paper_12 (by decide) ?_
  refine lv_iconst (v := 0) hx hb dL_paper_19 (by decide) ?_
  exact W.iret hx hb hr (fun t ht2 hW => ⟨⟨_, (ua, uL, (vp_updL uo 0 r.toInt64)), rfl, hw, by rw [ht2]; exact hP, va_K.moved hW.alike hK, hD⟩, hS.F ht2⟩) hS.2.2 dL_paper_20
def wp_L_separable (n : Nat) (ua : Nat → Nat → Int32) (uL : Nat → Nat → Nat → Int32) (uo : Nat → Int64) (p1 : Int32) (p2 : Int32) (p3 : Int32) (P : Int32 → (Nat → Nat → Int32) → (Nat → Nat → Nat → Int32) → (Nat → Int64) → Prop) : Prop :=
  wp_X3_separable n ua p1 p2 p3 (fun r => P 0 ua uL (vp_updL uo 0 r.toInt64)) (fun E => (E = "java/lang/IllegalArgumentException" ∧ P 1 ua uL uo))
abbrev wL_separable : List Cond := Cond.codeWith yL_separable cL_separable 6 (some .int) [(0, 12, 15, 13)] :: gG
abbrev rm_L_separable : Room := { frames := 8, cells := 3, slots := 18, locals := 134 }
set_option maxHeartbeats 4000000 in
set_option maxRecDepth 100000 in
theorem c_L_separable (l : Launch) (hl0 : l.stackTraces = false) (dC : Nat → ClassId) (dI : Nat → Nat → Nat) (cA : Nat → ClassId) (sa : Nat → Nat) (ga : Nat → Nat) (gl : Nat → Nat → Nat) (go n : Nat) (sz : Nat) (ua : Nat → Nat → Int32) (uL : Nat → Nat → Nat → Int32) (uo : Nat → Int64) (p1 : Int32) (p2 : Int32) (p3 : Int32) (P : Int32 → (Nat → Nat → Int32) → (Nat → Nat → Nat → Int32) → (Nat → Int64) → Prop) (hw : wp_L_separable n ua uL uo p1 p2 p3 P) : Met l yL_separable wL_separable rm_L_separable (xP2w dC dI cA sa (wG ga gl go cA n ua uL uo) sz [.ref (ga 0), .int p1, .int p2, .int p3, .ref go]) (va_Qi (fun r (u : (Nat → Nat → Int32) × (Nat → Nat → Nat → Int32) × (Nat → Int64)) => P r u.1 u.2.1 u.2.2) (xB dC dI cA (fun u : (Nat → Nat → Int32) × (Nat → Nat → Nat → Int32) × (Nat → Int64) => wG ga gl go cA n u.1 u.2.1 u.2.2) (va_A (wG ga gl go cA n ua uL uo) sz)) (va_A (wG ga gl go cA n ua uL uo) sz)) 3 18 (va_A (wG ga gl go cA n ua uL uo) sz) := by
  refine xofWH (cc := cL_separable) (maxL := 6) (ret := (some .int)) (by decide) rfl ?_
  intro p e s m args below meth c s₁ B hml hv
  obtain ⟨hargs, hsz, hP, hK, hD0, hE, hN1, hN2, hN3⟩ := hv
  have hx := B.exec
  have hb := B.bytes
  have hr := B.returns
  have hts := atoms_spec (ws := wL_separable) B.pre
  have hown : s.vm.findClass RL = some m.cls := findClass_of_methodNamed B.named
  have hlocks := B.notSynchronized
  have htab := vx_table (x := yL_separable) B (hts _ List.mem_cons_self)
  subst hsz
  have hD := hD0.self (sz := s.heap.size)
  generalize hAe : va_A (wG ga gl go cA n ua uL uo) s.heap.size = A at hD ⊢
  have hA : ∀ q : Nat, s.heap.size ≤ q → A q := fun q h => by rw [← hAe]; exact Or.inr h
  have hS : va_S A s.heap s.heap [] := va_S.rf
  clear hAe hD0
  have hl := lv_entry ([.ref (ga 0), .int p1, .int p2, .int p3, .ref go]) (n := 6) (Nat.le_of_ble_eq_true rfl)
  rw [show entryFrame m args 6 = entryFrame m (([.ref (ga 0), .int p1, .int p2, .int p3, .ref go] : List Value).toArray) 6 from by rw [hargs], lg_entry_eq]
  generalize (lg_sl ([.ref (ga 0), .int p1, .int p2, .int p3, .ref go]) ++ List.replicate (6 - (lg_sl ([.ref (ga 0), .int p1, .int p2, .int p3, .ref go])).length) Slot.unset).toArray = ls at hl ⊢
  have hl : lv_has ls 6 [(0, .ref (ga 0)), (1, .int p1), (2, .int p2), (3, .int p3), (4, .ref go)] := hl
  refine lv_aload hx hb dL_separable_0 (lv_at hl 4 rfl) ?_
  refine lv_iconst (v := 0) hx hb dL_separable_2 (by decide) ?_
  refine lv_aload_n hx hb dL_separable_3 rfl (lv_at hl 0 rfl) ?_
  refine lv_iload_n hx hb dL_separable_4 rfl (lv_at hl 1 rfl) ?_
  refine lv_iload_n hx hb dL_separable_5 rfl (lv_at hl 2 rfl) ?_
  refine lv_iload_n hx hb dL_separable_6 rfl (lv_at hl 3 rfl) ?_
  have hPc := hP.sub (ws' := (w_br ga gl cA n ua)) [0, 1, 2, 3] rfl
  refine vx_calli (vx_runV (As := [.int p1, .int p2, .int p3]) (rest := [.int 0, .ref go]) ⟨hx, hb, hml, hown, hts⟩ (c_X3_separable l hl0 dC dI cA sa ga gl n ua p1 p2 p3 _ _ hw) (gcV 3 hts m507 m504 m505 m506 m21 rfl rfl (by decide +kernel) ⟨Nat.le_of_ble_eq_true rfl, Nat.le_of_ble_eq_true rfl⟩) ⟨xbl1t, va_recv hK hPc (ci := 2) (q0 := 0) rfl rfl, fun U hU hW => ⟨rfl, by rw [hU]; exact hPc, va_K.moved hW.alike hK, xEmv hE hW (va_S.rf : va_S (fun _ => False) s.heap s.heap []) hU⟩⟩ rfl rfl hl.1 rfl (lv_room (Nat.le_of_ble_eq_true rfl)) dL_separable_7 ⟨Nat.le_of_ble_eq_true rfl, Nat.le_of_ble_eq_true rfl⟩) hS (fun q _ h => h.elim) (fun q h => h.elim) (fun q _ h => h.elim) (fun E ce q9 u t H1 locs1 ht hvm hpx hB hz1 hk1 hS1 hce hcv hcl => ?_) (fun r u t H1 locs ht hvm hw hB hz1 hk1 hS => ?_)
  · subst hB
    have hP1 := xkeep hP hk1
    obtain ⟨e9, hw⟩ := hpx
    subst e9
    refine vx_catch hown [] { startPc := 0, endPc := 12, handlerPc := 15, catchType := 13 } [] (by rw [htab]; rfl) (fun z hz => by cases hz) (by decide) (by decide) (hts _ (xm m129)) (xcast hE xc_IllegalArgumentException) hce hcv hcl ?_
    refine lv_astore (lv' := [(5, .ref q9), (0, .ref (ga 0)), (1, .int p1), (2, .int p2), (3, .int p3), (4, .ref go)]) hx hb dL_separable_15 hl (by decide) rfl (fun ls hl => ?_)
    refine lv_iconst (v := 1) hx hb dL_separable_17 (by decide) ?_
    exact W.iret hx hb hr (fun t ht2 hW => ⟨⟨_, (ua, uL, uo), rfl, hw, by rw [ht2]; exact hP1, va_K.moved hW.alike hK, hD⟩, hS1.F ht2⟩) hS1.2.2 dL_separable_18
  replace hP := xkeep hP hk1
  clear ht hB hz1 hk1 hPc
  generalize H1 = H at hP hS ⊢
  refine lv_i2l hx hb dL_separable_10 rfl ?_
  refine va_last hx hb hK hP hD hS 40 3 rfl rfl (xin (by decide)) dL_separable_11 (fun H locs hP hD hS => ?_)
  have hP : va_P (dC, dI) vwCl (wG ga gl go cA n ua uL (vp_updL uo 0 r.toInt64)) H := hP
  have hD : va_D A (wG ga gl go cA n ua uL (vp_updL uo 0 r.toInt64)) := hD
  refine lv_goto (tgt := 19) hx hb dL_separable_12 (by decide) ?_
  refine lv_iconst (v := 0) hx hb dL_separable_19 (by decide) ?_
  exact W.iret hx hb hr (fun t ht2 hW => ⟨⟨_, (ua, uL, (vp_updL uo 0 r.toInt64)), rfl, hw, by rw [ht2]; exact hP, va_K.moved hW.alike hK, hD⟩, hS.F ht2⟩) hS.2.2 dL_separable_20
def wp_L_blend (n : Nat) (ua : Nat → Nat → Int32) (uL : Nat → Nat → Nat → Int32) (uo : Nat → Int64) (p1 : Int32) (p2 : Int32) (p3 : Int32) (P : Int32 → (Nat → Nat → Int32) → (Nat → Nat → Nat → Int32) → (Nat → Int64) → Prop) : Prop :=
  wp_X3_blend n ua p1 p2 p3 (fun r => P 0 ua uL (vp_updL uo 0 r.toInt64)) (fun E => (E = "java/lang/IllegalArgumentException" ∧ P 1 ua uL uo))
abbrev wL_blend : List Cond := Cond.codeWith yL_blend cL_blend 6 (some .int) [(0, 12, 15, 13)] :: gG
abbrev rm_L_blend : Room := { frames := 8, cells := 3, slots := 18, locals := 138 }
set_option maxHeartbeats 4000000 in
set_option maxRecDepth 100000 in
theorem c_L_blend (l : Launch) (hl0 : l.stackTraces = false) (dC : Nat → ClassId) (dI : Nat → Nat → Nat) (cA : Nat → ClassId) (sa : Nat → Nat) (ga : Nat → Nat) (gl : Nat → Nat → Nat) (go n : Nat) (sz : Nat) (ua : Nat → Nat → Int32) (uL : Nat → Nat → Nat → Int32) (uo : Nat → Int64) (p1 : Int32) (p2 : Int32) (p3 : Int32) (P : Int32 → (Nat → Nat → Int32) → (Nat → Nat → Nat → Int32) → (Nat → Int64) → Prop) (hw : wp_L_blend n ua uL uo p1 p2 p3 P) : Met l yL_blend wL_blend rm_L_blend (xP2w dC dI cA sa (wG ga gl go cA n ua uL uo) sz [.ref (ga 0), .int p1, .int p2, .int p3, .ref go]) (va_Qi (fun r (u : (Nat → Nat → Int32) × (Nat → Nat → Nat → Int32) × (Nat → Int64)) => P r u.1 u.2.1 u.2.2) (xB dC dI cA (fun u : (Nat → Nat → Int32) × (Nat → Nat → Nat → Int32) × (Nat → Int64) => wG ga gl go cA n u.1 u.2.1 u.2.2) (va_A (wG ga gl go cA n ua uL uo) sz)) (va_A (wG ga gl go cA n ua uL uo) sz)) 3 18 (va_A (wG ga gl go cA n ua uL uo) sz) := by
  refine xofWH (cc := cL_blend) (maxL := 6) (ret := (some .int)) (by decide) rfl ?_
  intro p e s m args below meth c s₁ B hml hv
  obtain ⟨hargs, hsz, hP, hK, hD0, hE, hN1, hN2, hN3⟩ := hv
  have hx := B.exec
  have hb := B.bytes
  have hr := B.returns
  have hts := atoms_spec (ws := wL_blend) B.pre
  have hown : s.vm.findClass RL = some m.cls := findClass_of_methodNamed B.named
  have hlocks := B.notSynchronized
  have htab := vx_table (x := yL_blend) B (hts _ List.mem_cons_self)
  subst hsz
  have hD := hD0.self (sz := s.heap.size)
  generalize hAe : va_A (wG ga gl go cA n ua uL uo) s.heap.size = A at hD ⊢
  have hA : ∀ q : Nat, s.heap.size ≤ q → A q := fun q h => by rw [← hAe]; exact Or.inr h
  have hS : va_S A s.heap s.heap [] := va_S.rf
  clear hAe hD0
  have hl := lv_entry ([.ref (ga 0), .int p1, .int p2, .int p3, .ref go]) (n := 6) (Nat.le_of_ble_eq_true rfl)
  rw [show entryFrame m args 6 = entryFrame m (([.ref (ga 0), .int p1, .int p2, .int p3, .ref go] : List Value).toArray) 6 from by rw [hargs], lg_entry_eq]
  generalize (lg_sl ([.ref (ga 0), .int p1, .int p2, .int p3, .ref go]) ++ List.replicate (6 - (lg_sl ([.ref (ga 0), .int p1, .int p2, .int p3, .ref go])).length) Slot.unset).toArray = ls at hl ⊢
  have hl : lv_has ls 6 [(0, .ref (ga 0)), (1, .int p1), (2, .int p2), (3, .int p3), (4, .ref go)] := hl
  refine lv_aload hx hb dL_blend_0 (lv_at hl 4 rfl) ?_
  refine lv_iconst (v := 0) hx hb dL_blend_2 (by decide) ?_
  refine lv_aload_n hx hb dL_blend_3 rfl (lv_at hl 0 rfl) ?_
  refine lv_iload_n hx hb dL_blend_4 rfl (lv_at hl 1 rfl) ?_
  refine lv_iload_n hx hb dL_blend_5 rfl (lv_at hl 2 rfl) ?_
  refine lv_iload_n hx hb dL_blend_6 rfl (lv_at hl 3 rfl) ?_
  have hPc := hP.sub (ws' := (w_br ga gl cA n ua)) [0, 1, 2, 3] rfl
  refine vx_calli (vx_runV (As := [.int p1, .int p2, .int p3]) (rest := [.int 0, .ref go]) ⟨hx, hb, hml, hown, hts⟩ (c_X3_blend l hl0 dC dI cA sa ga gl n ua p1 p2 p3 _ _ hw) (gcV 3 hts m515 m512 m513 m514 m21 rfl rfl (by decide +kernel) ⟨Nat.le_of_ble_eq_true rfl, Nat.le_of_ble_eq_true rfl⟩) ⟨xbl1t, va_recv hK hPc (ci := 2) (q0 := 0) rfl rfl, fun U hU hW => ⟨rfl, by rw [hU]; exact hPc, va_K.moved hW.alike hK, xEmv hE hW (va_S.rf : va_S (fun _ => False) s.heap s.heap []) hU⟩⟩ rfl rfl hl.1 rfl (lv_room (Nat.le_of_ble_eq_true rfl)) dL_blend_7 ⟨Nat.le_of_ble_eq_true rfl, Nat.le_of_ble_eq_true rfl⟩) hS (fun q _ h => h.elim) (fun q h => h.elim) (fun q _ h => h.elim) (fun E ce q9 u t H1 locs1 ht hvm hpx hB hz1 hk1 hS1 hce hcv hcl => ?_) (fun r u t H1 locs ht hvm hw hB hz1 hk1 hS => ?_)
  · subst hB
    have hP1 := xkeep hP hk1
    obtain ⟨e9, hw⟩ := hpx
    subst e9
    refine vx_catch hown [] { startPc := 0, endPc := 12, handlerPc := 15, catchType := 13 } [] (by rw [htab]; rfl) (fun z hz => by cases hz) (by decide) (by decide) (hts _ (xm m129)) (xcast hE xc_IllegalArgumentException) hce hcv hcl ?_
    refine lv_astore (lv' := [(5, .ref q9), (0, .ref (ga 0)), (1, .int p1), (2, .int p2), (3, .int p3), (4, .ref go)]) hx hb dL_blend_15 hl (by decide) rfl (fun ls hl => ?_)
    refine lv_iconst (v := 1) hx hb dL_blend_17 (by decide) ?_
    exact W.iret hx hb hr (fun t ht2 hW => ⟨⟨_, (ua, uL, uo), rfl, hw, by rw [ht2]; exact hP1, va_K.moved hW.alike hK, hD⟩, hS1.F ht2⟩) hS1.2.2 dL_blend_18
  replace hP := xkeep hP hk1
  clear ht hB hz1 hk1 hPc
  generalize H1 = H at hP hS ⊢
  refine lv_i2l hx hb dL_blend_10 rfl ?_
  refine va_last hx hb hK hP hD hS 40 3 rfl rfl (xin (by decide)) dL_blend_11 (fun H locs hP hD hS => ?_)
  have hP : va_P (dC, dI) vwCl (wG ga gl go cA n ua uL (vp_updL uo 0 r.toInt64)) H := hP
  have hD : va_D A (wG ga gl go cA n ua uL (vp_updL uo 0 r.toInt64)) := hD
  refine lv_goto (tgt := 19) hx hb dL_blend_12 (by decide) ?_
  refine lv_iconst (v := 0) hx hb dL_blend_19 (by decide) ?_
  exact W.iret hx hb hr (fun t ht2 hW => ⟨⟨_, (ua, uL, (vp_updL uo 0 r.toInt64)), rfl, hw, by rw [ht2]; exact hP, va_K.moved hW.alike hK, hD⟩, hS.F ht2⟩) hS.2.2 dL_blend_20
