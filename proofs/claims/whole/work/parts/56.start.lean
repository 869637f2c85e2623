theorem m35 : Cond.classLink RL 8 "BlendRows" ∈ gG := gG_mk (i := 35) (by decide +kernel) (by decide +kernel)
theorem m36 : Cond.instantiable "BlendRows" 13 ∈ gG := gG_mk (i := 36) (by decide +kernel) (by decide +kernel)
theorem m37 : Cond.methodLink RL 78 yX3_init ∈ gG := gG_mk (i := 37) (by decide +kernel) (by decide +kernel)
theorem m38 : Cond.instanceMethod yX3_init ∈ gG := gG_mk (i := 38) (by decide +kernel) (by decide +kernel)
theorem m39 : Cond.code yX3_init cX3_init 4 none ∈ gG := gG_mk (i := 39) (by decide +kernel) (by decide +kernel)
theorem m123 : Cond.methodLink RL 72 yL_cell ∈ gG := gG_mk (i := 123) (by decide +kernel) (by decide +kernel)
theorem m124 : Cond.static yL_cell ∈ gG := gG_mk (i := 124) (by decide +kernel) (by decide +kernel)
theorem m125 : Cond.code yL_cell cL_cell 2 (some .int) ∈ gG := gG_mk (i := 125) (by decide +kernel) (by decide +kernel)
theorem m423 : Cond.instantiable "java/lang/ArrayIndexOutOfBoundsException" 6 ∈ gG := gG_mk (i := 423) (by decide +kernel) (by decide +kernel)
theorem m522 : Cond.classLink RL 80 "BlendRowsModel" ∈ gG := gG_mk (i := 522) (by decide +kernel) (by decide +kernel)
theorem m523 : Cond.instantiable "BlendRowsModel" 23 ∈ gG := gG_mk (i := 523) (by decide +kernel) (by decide +kernel)
theorem m524 : Cond.methodLink RL 82 yX4_init ∈ gG := gG_mk (i := 524) (by decide +kernel) (by decide +kernel)
theorem m525 : Cond.instanceMethod yX4_init ∈ gG := gG_mk (i := 525) (by decide +kernel) (by decide +kernel)
theorem m526 : Cond.code yX4_init cX4_init 4 none ∈ gG := gG_mk (i := 526) (by decide +kernel) (by decide +kernel)
theorem m755 : Cond.arrayClass .long ∈ gG := gG_mk (i := 755) (by decide +kernel) (by decide +kernel)
theorem jJx : ∀ w ∈ wsJx000600, w ∈ gG := by decide +kernel
def cv (L : Nat) (xs : Nat → Int32) (k : Int32) : Int32 := if Int32.ofNat L ≤ k then 0 else xs k.toNatClampNeg
theorem cv_ok (L : Nat) (xs : Nat → Int32) (hL : L ≤ 3074) {k : Int32} (h0 : 0 ≤ k.toInt) : wp_L_cell L xs k (fun r => r = cv L xs k) := by
  unfold wp_L_cell cv
  refine ⟨fun h => by rw [if_pos h], fun h => ⟨?_, by rw [if_neg h]⟩⟩
  rw [vp_in_iff]
  refine ⟨h0, ?_⟩
  rw [Int32.le_iff_toInt_le, show (Int32.ofNat L).toInt = (L : Int) from nI_toInt (n := L) (by omega)] at h
  omega
def whole_pure (L : Nat) (xs : Nat → Int32) : Prop := ∃ w1 h1 n : Nat, (if 1 < (if (cv L xs 0) < 12 then (cv L xs 0) else 12) then (if (cv L xs 0) < 12 then (cv L xs 0) else 12) else 1) = nI w1 ∧ (if 1 < (if (cv L xs 1) < 12 then (cv L xs 1) else 12) then (if (cv L xs 1) < 12 then (cv L xs 1) else 12) else 1) = nI h1 ∧ w1 * h1 = n ∧ n ≤ 144 ∧ wp_X3_init n (br0 (nI w1) (nI h1) (nI n)) (fun _ => ly0 (nI n)) (fun ua uL => wp_X4_init md0 (cv L xs 0) (cv L xs 1) (fun um => ∃ N, N ≤ 600 ∧ wp_law L xs n N 2 ua uL (fun _ => 0) um))
set_option maxHeartbeats 8000000 in
set_option maxRecDepth 100000 in
theorem whole_start {p : Program} {e : Env} {s : State} {m : MethodId} {below : List Frame} {meth : Method} {c : Code} (l : Launch) (hl0 : l.stackTraces = false) {b L : Nat} {xs : Nat → Int32} (hL : L ≤ 3074) (hpure : whole_pure L xs) (C0 : lw_At p s m meth c b L xs) : W p l e room_1 s m #[Value.ref b] below meth c s.heap [] 0 0 (lw_Z below #[Value.ref b] s) (entryFrame m ([Value.ref b] : List Value).toArray 7) := by
  obtain ⟨w1, h1, n, ew, eh, en, hn9, hw⟩ := hpure
  obtain ⟨hx, hb, hr, hml, hown, hts0, hX, hbl, hlocks, hgv⟩ := C0
  obtain ⟨A, hAe⟩ : ∃ A : Nat → Prop, A = (fun q => s.heap.size ≤ q) := ⟨_, rfl⟩
  have hA : ∀ q : Nat, s.heap.size ≤ q → A q := by rw [hAe]; exact fun _ h => h
  have hAs : ∀ q : Nat, A q → s.heap.size ≤ q := by rw [hAe]; exact fun _ h => h
  have hbA : ¬ A b := fun h => absurd (hAs b h) (Nat.not_le.mpr hbl)
  clear hAe
  have hown : s.vm.findClass RL = some m.cls := hown
  have hb : c.code = cL_law := hb
  have hts : ∀ w ∈ Cond.initialized RL :: gG, w.before #[Value.ref b] s = true := by
    intro w h
    rcases List.mem_cons.mp h with h | h
    · subst h; exact hts0 _ (List.mem_of_getElem? (i := 20) (by decide +kernel))
    · exact hts0 _ (List.mem_filter.mp h).1
  have hq := flat_of_before _ hgv
  obtain ⟨d0, iS0, hKn0⟩ := u_known (C := RJx00060) (T := TJx00060) (N := 6) (n := 6) hts (fun w h => xm (jJx w h)) (hts _ (xm m423))
  obtain ⟨d1, iS1, hKn1⟩ := u_known (C := RX0) (T := TX0) (N := 7) (n := 7) hts iX0 (hts _ (xm m51))
  obtain ⟨d2, iS2, hKn2⟩ := u_known (C := RX3) (T := TX3) (N := 13) (n := 13) hts iX3 (hts _ (xm m36))
  obtain ⟨d3, iS3, hKn3⟩ := u_known (C := RX4) (T := TX4) (N := 23) (n := 23) hts iX4 (hts _ (xm m523))
  obtain ⟨dC, dI, hKc⟩ : ∃ (dC : Nat → ClassId) (dI : Nat → Nat → Nat), ∀ (k : Nat) (q : vw_C), vwCl[k]? = some q → u_Kn s q.1 q.2.1 q.2.2 (dC k) (dI k) := by
    refine ⟨fun k => if k = 0 then d0 else if k = 1 then d1 else if k = 2 then d2 else d3, fun k => if k = 0 then iS0 else if k = 1 then iS1 else if k = 2 then iS2 else iS3, ?_⟩
    intro k q hq
    match k, hq with
    | 0, hq => cases hq; exact hKn0
    | 1, hq => cases hq; exact hKn1
    | 2, hq => cases hq; exact hKn2
    | 3, hq => cases hq; exact hKn3
    | k + 4, hq => simp [vwCl] at hq
  obtain ⟨a0, k0, t0, f0, g0, e0⟩ := Cond.arrayClass_spec (hts _ (xm m78))
  obtain ⟨a1, k1, t1, f1, g1, e1⟩ := Cond.arrayClass_spec (hts _ (xm m598))
  obtain ⟨a3, k3, t3, f3, g3, e3⟩ := Cond.arrayClass_spec (hts _ (xm m755))
  have hAO : va_AO "BlendRows$Layer" s := va_AO.of (hts0 (Cond.arrayOver (.object "BlendRows$Layer")) (List.mem_of_getElem? (i := 50) (by decide +kernel)))
  obtain ⟨t2, a2, k2, j2, -, g2, e2, f2⟩ := Cond.arrayOver_spec hAO
  obtain ⟨cA, hcA⟩ : ∃ f : Nat → ClassId, f = (fun k => [a0, a1, a2, a3].getD k a0) := ⟨_, rfl⟩
  have hK : va_K (dC, dI) vwCl (tyA cA) s := by
    refine ⟨hKc, fun k q hk => ?_⟩
    rw [hcA] at hk
    match k, hk with
    | 0, hk => cases hk; exact ⟨fun n z => ⟨fun k h => (by cases h), k0, g0, t0, e0⟩, f0⟩
    | 1, hk => cases hk; exact ⟨fun n z => ⟨fun k h => (by cases h), k1, g1, t1, e1⟩, f1⟩
    | 2, hk => cases hk; exact ⟨fun n z => ⟨fun k h => (by cases h), k2, g2, t2, e2⟩, k2, t2, g2, e2, j2, f2⟩
    | 3, hk => cases hk; exact ⟨fun n z => ⟨fun k h => (by cases h), k3, g3, t3, e3⟩, f3⟩
    | k + 4, hk => simp [tyA] at hk
  clear hcA
  obtain ⟨s0, -, -, -, y0, -⟩ := Cond.exactly_spec (hq (Cond.exactly (.string "BlendRows" 62) "java/lang/String") (by decide +kernel))
  obtain ⟨s1, -, -, -, y1, -⟩ := Cond.exactly_spec (hq (Cond.exactly (.string "BlendRows" 67) "java/lang/String") (by decide +kernel))
  obtain ⟨s2, -, -, -, y2, -⟩ := Cond.exactly_spec (hq (Cond.exactly (.string "BlendRows" 71) "java/lang/String") (by decide +kernel))
  obtain ⟨s3, -, -, -, y3, -⟩ := Cond.exactly_spec (hq (Cond.exactly (.string "BlendRows" 163) "java/lang/String") (by decide +kernel))
  obtain ⟨s4, -, -, -, y4, -⟩ := Cond.exactly_spec (hq (Cond.exactly (.string "BlendRows" 178) "java/lang/String") (by decide +kernel))
  obtain ⟨s5, -, -, -, y5, -⟩ := Cond.exactly_spec (hq (Cond.exactly (.string "BlendRows" 173) "java/lang/String") (by decide +kernel))
  obtain ⟨s6, -, -, -, y6, -⟩ := Cond.exactly_spec (hq (Cond.exactly (.string "BlendRows" 124) "java/lang/String") (by decide +kernel))
  obtain ⟨s7, -, -, -, y7, -⟩ := Cond.exactly_spec (hq (Cond.exactly (.string "BlendRows" 171) "java/lang/String") (by decide +kernel))
  obtain ⟨s8, -, -, -, y8, -⟩ := Cond.exactly_spec (hq (Cond.exactly (.string "BlendRows" 168) "java/lang/String") (by decide +kernel))
  obtain ⟨s9, -, -, -, y9, -⟩ := Cond.exactly_spec (hq (Cond.exactly (.string "BlendRows" 147) "java/lang/String") (by decide +kernel))
  obtain ⟨s10, -, -, -, y10, -⟩ := Cond.exactly_spec (hq (Cond.exactly (.string "BlendRows" 176) "java/lang/String") (by decide +kernel))
  obtain ⟨sa, hsa⟩ : ∃ f : Nat → Nat, f = (fun k => [s0, s1, s2, s3, s4, s5, s6, s7, s8, s9, s10].getD k 0) := ⟨_, rfl⟩
  have hE : xEA A sa s := by
    refine ⟨vx_Zqof (hts0 (Cond.laysStatic Bundle.tN "UNASSIGNED_STACK" Bundle.steD) (List.mem_of_getElem? (i := 161) (by decide +kernel))) (hts0 (Cond.initialized Bundle.tN) (List.mem_of_getElem? (i := 25) (by decide +kernel))) (hq (Cond.isRef (.static Bundle.tN "UNASSIGNED_STACK" Bundle.steD)) (by decide +kernel)) (fun a ha h => absurd (hAs a h) (Nat.not_le.mpr ha)), vx_Zqof (hts0 (Cond.laysStatic Bundle.tN "SUPPRESSED_SENTINEL" Bundle.listD) (List.mem_of_getElem? (i := 163) (by decide +kernel))) (hts0 (Cond.initialized Bundle.tN) (List.mem_of_getElem? (i := 25) (by decide +kernel))) (hq (Cond.isRef (.static Bundle.tN "SUPPRESSED_SENTINEL" Bundle.listD)) (by decide +kernel)) (fun a ha h => absurd (hAs a h) (Nat.not_le.mpr ha)), ?_, fun w hw => va_Nw.of (xdc_tab (List.mem_filter.mp hw).2) (hts0 w (List.mem_filter.mp hw).1)⟩
    intro i q hi
    rw [hsa]
    match i, hi with
    | 0, hi =>
      have hi : some (62, "nothing is told of that") = some q := hi
      cases hi
      exact vk_R.of (hts0 (Cond.stringRef "BlendRows" 62 "nothing is told of that") (List.mem_of_getElem? (i := 176) (by decide +kernel))) y0
    | 1, hi =>
      have hi : some (67, "a bound is 1 .. 6") = some q := hi
      cases hi
      exact vk_R.of (hts0 (Cond.stringRef "BlendRows" 67 "a bound is 1 .. 6") (List.mem_of_getElem? (i := 210) (by decide +kernel))) y1
    | 2, hi =>
      have hi : some (71, "no group goes deeper") = some q := hi
      cases hi
      exact vk_R.of (hts0 (Cond.stringRef "BlendRows" 71 "no group goes deeper") (List.mem_of_getElem? (i := 228) (by decide +kernel))) y2
    | 3, hi =>
      have hi : some (163, "the page never ends") = some q := hi
      cases hi
      exact vk_R.of (hts0 (Cond.stringRef "BlendRows" 163 "the page never ends") (List.mem_of_getElem? (i := 282) (by decide +kernel))) y3
    | 4, hi =>
      have hi : some (178, "there is no such mode") = some q := hi
      cases hi
      exact vk_R.of (hts0 (Cond.stringRef "BlendRows" 178 "there is no such mode") (List.mem_of_getElem? (i := 292) (by decide +kernel))) y4
    | 5, hi =>
      have hi : some (173, "a byte is 0 .. 255") = some q := hi
      cases hi
      exact vk_R.of (hts0 (Cond.stringRef "BlendRows" 173 "a byte is 0 .. 255") (List.mem_of_getElem? (i := 296) (by decide +kernel))) y5
    | 6, hi =>
      have hi : some (124, "a mask is of kind 1 or 2") = some q := hi
      cases hi
      exact vk_R.of (hts0 (Cond.stringRef "BlendRows" 124 "a mask is of kind 1 or 2") (List.mem_of_getElem? (i := 403) (by decide +kernel))) y6
    | 7, hi =>
      have hi : some (171, "a colour has no such band") = some q := hi
      cases hi
      exact vk_R.of (hts0 (Cond.stringRef "BlendRows" 171 "a colour has no such band") (List.mem_of_getElem? (i := 433) (by decide +kernel))) y7
    | 8, hi =>
      have hi : some (168, "the page has no such point") = some q := hi
      cases hi
      exact vk_R.of (hts0 (Cond.stringRef "BlendRows" 168 "the page has no such point") (List.mem_of_getElem? (i := 461) (by decide +kernel))) y8
    | 9, hi =>
      have hi : some (147, "a point has no such alpha") = some q := hi
      cases hi
      exact vk_R.of (hts0 (Cond.stringRef "BlendRows" 147 "a point has no such alpha") (List.mem_of_getElem? (i := 493) (by decide +kernel))) y9
    | 10, hi =>
      have hi : some (176, "a colour is 0 .. 16777215") = some q := hi
      cases hi
      exact vk_R.of (hts0 (Cond.stringRef "BlendRows" 176 "a colour is 0 .. 16777215") (List.mem_of_getElem? (i := 520) (by decide +kernel))) y10
    | i + 11, hi => simp [xS] at hi
  clear hsa
  have hN1 := va_Nc.of (hq (Cond.not (.castable "java/lang/IllegalArgumentException" "java/lang/IllegalStateException")) (by decide +kernel))
  have hN2 := va_Nc.of (hq (Cond.not (.castable "java/lang/ArrayIndexOutOfBoundsException" "java/lang/IllegalArgumentException")) (by decide +kernel))
  have hN3 := va_Nc.of (hq (Cond.not (.castable "java/lang/IllegalArgumentException" "java/lang/ArrayIndexOutOfBoundsException")) (by decide +kernel))
  have C1 : lCx p l s m meth c dC dI cA sa b L xs A := ⟨hx, hb, hml, hown, hts, hX, hbl, hbA, hA, hK, hE, hN1, hN2, hN3, hl0⟩
  clear hq hgv y0 y1 y2 y3 y4 y5 y6 y7 y8 y9 y10
  have hS : va_S A s.heap s.heap [] := va_S.rf
  have hP : va_P (dC, dI) vwCl [] s.heap := fun k q h => by simp at h
  have hD : va_D A [] := ⟨fun i j p q h => by simp at h, fun k q h => by simp at h⟩
  have hl := lv_entry ([.ref b]) (n := 7) (Nat.le_of_ble_eq_true rfl)
  rw [lg_entry_eq]
  generalize (lg_sl ([.ref b]) ++ List.replicate (7 - (lg_sl ([.ref b])).length) Slot.unset).toArray = ls at hl ⊢
  have hl : lv_has ls 7 [(0, .ref b)] := hl
  refine va_new (ci := 2) (fs := [.int 0, .int 0, .int 0, .null, .null, .null, .int 0, .int 0, .int 0, .int 0, .int 0, .int 0, .int 0]) (C := RX3) (T := TX3) (N := 13) hx hb hts iX3 tyX3 tyX3_ok hown (hts _ (xm m35)) (hts _ (xm m36)) (hts _ (xm m21)) hK hP hD hS hA rfl (fun j hj => by rcases (show j = 0 ∨ j = 1 ∨ j = 2 ∨ j = 3 ∨ j = 4 ∨ j = 5 ∨ j = 6 ∨ j = 7 ∨ j = 8 ∨ j = 9 ∨ j = 10 ∨ j = 11 ∨ j = 12 by omega) with rfl | rfl | rfl | rfl | rfl | rfl | rfl | rfl | rfl | rfl | rfl | rfl | rfl <;> rfl) (Nat.le_of_ble_eq_true rfl) (Nat.le_of_ble_eq_true rfl) dL_law_0 (fun x0 H hP hD hS => ?_)
  have hP : va_P (dC, dI) vwCl [(x0, .inr (2, [.int 0, .int 0, .int 0, .null, .null, .null, .int 0, .int 0, .int 0, .int 0, .int 0, .int 0, .int 0]))] H := hP
  have hD : va_D A [(x0, .inr (2, [.int 0, .int 0, .int 0, .null, .null, .null, .int 0, .int 0, .int 0, .int 0, .int 0, .int 0, .int 0]))] := hD
  refine lv_dup hx hb dL_law_3 rfl ?_
  refine lv_aload_n hx hb dL_law_4 rfl (lv_at hl 0 rfl) ?_
  refine lv_iconst (v := 0) hx hb dL_law_5 (by decide) ?_
  refine vp_callSi (va_Run.run (va_runS (As := [.ref b, .int 0]) (rest := [.ref x0, .ref x0]) ⟨hx, hb, hml, hown, hts⟩ (c_L_cell l b L xs 0 _ (cv_ok L xs hL (by decide))) (gcS 2 hts m125 m123 m124 m20 rfl rfl (by decide +kernel) ⟨Nat.le_of_ble_eq_true rfl, Nat.le_of_ble_eq_true rfl⟩) ⟨xblX, fun U hU hW => ⟨rfl, va_X.moved hW.alike (hX.kept (by rw [hU]; exact hS.2.1 b hbl hbA)), by rw [hU]; exact Nat.lt_of_lt_of_le hbl hS.1⟩⟩ rfl rfl hl.1 rfl (lv_room (Nat.le_of_ble_eq_true rfl)) dL_law_6 ⟨Nat.le_of_ble_eq_true rfl, Nat.le_of_ble_eq_true rfl⟩)) (fun r9 e9 => ?_)
  refine xtop (y := cv L xs 0) e9 ?_
  clear e9 r9
  refine lv_aload_n hx hb dL_law_9 rfl (lv_at hl 0 rfl) ?_
  refine lv_iconst (v := 1) hx hb dL_law_10 (by decide) ?_
  refine vp_callSi (va_Run.run (va_runS (As := [.ref b, .int 1]) (rest := [.int (cv L xs 0), .ref x0, .ref x0]) ⟨hx, hb, hml, hown, hts⟩ (c_L_cell l b L xs 1 _ (cv_ok L xs hL (by decide))) (gcS 2 hts m125 m123 m124 m20 rfl rfl (by decide +kernel) ⟨Nat.le_of_ble_eq_true rfl, Nat.le_of_ble_eq_true rfl⟩) ⟨xblX, fun U hU hW => ⟨rfl, va_X.moved hW.alike (hX.kept (by rw [hU]; exact hS.2.1 b hbl hbA)), by rw [hU]; exact Nat.lt_of_lt_of_le hbl hS.1⟩⟩ rfl rfl hl.1 rfl (lv_room (Nat.le_of_ble_eq_true rfl)) dL_law_11 ⟨Nat.le_of_ble_eq_true rfl, Nat.le_of_ble_eq_true rfl⟩)) (fun r9 e9 => ?_)
  refine xtop (y := cv L xs 1) e9 ?_
  clear e9 r9
  have hPc := hP.sub (ws' := [(x0, .inr (2, [.int 0, .int 0, .int 0, .null, .null, .null, .int 0, .int 0, .int 0, .int 0, .int 0, .int 0, .int 0]))]) [0] rfl
  have hDc := hD.sub (ws' := [(x0, .inr (2, [.int 0, .int 0, .int 0, .null, .null, .null, .int 0, .int 0, .int 0, .int 0, .int 0, .int 0, .int 0]))]) [0] (by decide) rfl
  have hFc := va_free (wc := [(x0, .inr (2, [.int 0, .int 0, .int 0, .null, .null, .null, .int 0, .int 0, .int 0, .int 0, .int 0, .int 0, .int 0]))]) hD hS hA [0] rfl
  refine va_callv (va_runI (As := [.int (cv L xs 0), .int (cv L xs 1)]) (rest := [.ref x0]) ⟨hx, hb, hml, hown, hts⟩ (c_X3_init l dC dI cA x0 (cv L xs 0) (cv L xs 1) w1 h1 n ew eh en hn9 _ _ hw) (gcI 2 hts m39 m37 m38 m21 rfl rfl rfl (by decide +kernel) ⟨Nat.le_of_ble_eq_true rfl, Nat.le_of_ble_eq_true rfl⟩) ⟨xbl2o, fun U hU hW => ⟨rfl, by rw [hU], by rw [hU]; exact hPc, va_K.moved hW.alike hK, hDc.weaken (fun _ _ _ _ => trivial), va_AO.moved hW.alike hAO⟩⟩ rfl rfl hl.1 rfl (lv_room (Nat.le_of_ble_eq_true rfl)) dL_law_14 ⟨Nat.le_of_ble_eq_true rfl, Nat.le_of_ble_eq_true rfl⟩) hS (fun q _ h => hFc q h) hFc (fun u t H1 locs ht hvm hw hB hz1 hk1 hS => ?_)
  obtain ⟨ga, gl, ua, uL⟩ := u
  obtain ⟨hg0, hw⟩ := hw
  obtain ⟨hP1, hK1, hD1⟩ := hB
  rw [ht] at hP1
  dsimp only at hg0 hw
  have hP : va_P (dC, dI) vwCl (w_br ga gl cA n ua ++ wL gl cA n uL) H1 := hP1
  have hD : va_D A (w_br ga gl cA n ua ++ wL gl cA n uL) := hD1.weaken (fun k q hk h => hFc q.1 h)
  clear hP1 hD1 hK1 hk1 hz1 hFc hDc hPc ht
  generalize H1 = H at hP hS ⊢
  refine xtopv (y := .ref (ga 0)) (by rw [hg0]) ?_
  clear hg0
  refine lv_astore_n (lv' := [(1, .ref (ga 0)), (0, .ref b)]) hx hb dL_law_17 rfl hl (by decide) rfl (fun ls hl => ?_)
  refine va_new (ci := 3) (fs := [.int 0, .int 0, .int 0, .int 0, .int 0, .null, .int 0, .null, .null, .null, .null, .null, .null, .int 0, .null, .null, .null, .null, .int 0, .null, .null, .null, .null]) (C := RX4) (T := TX4) (N := 23) hx hb hts iX4 tyX4 tyX4_ok hown (hts _ (xm m522)) (hts _ (xm m523)) (hts _ (xm m24)) hK hP hD hS hA rfl (fun j hj => by rcases (show j = 0 ∨ j = 1 ∨ j = 2 ∨ j = 3 ∨ j = 4 ∨ j = 5 ∨ j = 6 ∨ j = 7 ∨ j = 8 ∨ j = 9 ∨ j = 10 ∨ j = 11 ∨ j = 12 ∨ j = 13 ∨ j = 14 ∨ j = 15 ∨ j = 16 ∨ j = 17 ∨ j = 18 ∨ j = 19 ∨ j = 20 ∨ j = 21 ∨ j = 22 by omega) with rfl | rfl | rfl | rfl | rfl | rfl | rfl | rfl | rfl | rfl | rfl | rfl | rfl | rfl | rfl | rfl | rfl | rfl | rfl | rfl | rfl | rfl | rfl <;> rfl) (Nat.le_of_ble_eq_true rfl) (Nat.le_of_ble_eq_true rfl) dL_law_18 (fun y0 H hP hD hS => ?_)
  have hP : va_P (dC, dI) vwCl (w_br ga gl cA n ua ++ wL gl cA n uL ++ [(y0, .inr (3, [.int 0, .int 0, .int 0, .int 0, .int 0, .null, .int 0, .null, .null, .null, .null, .null, .null, .int 0, .null, .null, .null, .null, .int 0, .null, .null, .null, .null]))]) H := hP
  have hD : va_D A (w_br ga gl cA n ua ++ wL gl cA n uL ++ [(y0, .inr (3, [.int 0, .int 0, .int 0, .int 0, .int 0, .null, .int 0, .null, .null, .null, .null, .null, .null, .int 0, .null, .null, .null, .null, .int 0, .null, .null, .null, .null]))]) := hD
  refine lv_dup hx hb dL_law_21 rfl ?_
  refine lv_aload_n hx hb dL_law_22 rfl (lv_at hl 1 rfl) ?_
  refine lv_iconst (v := 0) hx hb dL_law_23 (by decide) ?_
  refine vp_callSi (va_Run.run (va_runS (As := [.ref b, .int 0]) (rest := [.ref y0, .ref y0]) ⟨hx, hb, hml, hown, hts⟩ (c_L_cell l b L xs 0 _ (cv_ok L xs hL (by decide))) (gcS 2 hts m125 m123 m124 m20 rfl rfl (by decide +kernel) ⟨Nat.le_of_ble_eq_true rfl, Nat.le_of_ble_eq_true rfl⟩) ⟨xblX, fun U hU hW => ⟨rfl, va_X.moved hW.alike (hX.kept (by rw [hU]; exact hS.2.1 b hbl hbA)), by rw [hU]; exact Nat.lt_of_lt_of_le hbl hS.1⟩⟩ rfl rfl hl.1 rfl (lv_room (Nat.le_of_ble_eq_true rfl)) dL_law_24 ⟨Nat.le_of_ble_eq_true rfl, Nat.le_of_ble_eq_true rfl⟩)) (fun r9 e9 => ?_)
  refine xtop (y := cv L xs 0) e9 ?_
  clear e9 r9
  refine lv_aload_n hx hb dL_law_27 rfl (lv_at hl 1 rfl) ?_
  refine lv_iconst (v := 1) hx hb dL_law_28 (by decide) ?_
  refine vp_callSi (va_Run.run (va_runS (As := [.ref b, .int 1]) (rest := [.int (cv L xs 0), .ref y0, .ref y0]) ⟨hx, hb, hml, hown, hts⟩ (c_L_cell l b L xs 1 _ (cv_ok L xs hL (by decide))) (gcS 2 hts m125 m123 m124 m20 rfl rfl (by decide +kernel) ⟨Nat.le_of_ble_eq_true rfl, Nat.le_of_ble_eq_true rfl⟩) ⟨xblX, fun U hU hW => ⟨rfl, va_X.moved hW.alike (hX.kept (by rw [hU]; exact hS.2.1 b hbl hbA)), by rw [hU]; exact Nat.lt_of_lt_of_le hbl hS.1⟩⟩ rfl rfl hl.1 rfl (lv_room (Nat.le_of_ble_eq_true rfl)) dL_law_29 ⟨Nat.le_of_ble_eq_true rfl, Nat.le_of_ble_eq_true rfl⟩)) (fun r9 e9 => ?_)
  refine xtop (y := cv L xs 1) e9 ?_
  clear e9 r9
  have hPc := hP.sub (ws' := [(y0, .inr (3, [.int 0, .int 0, .int 0, .int 0, .int 0, .null, .int 0, .null, .null, .null, .null, .null, .null, .int 0, .null, .null, .null, .null, .int 0, .null, .null, .null, .null]))]) [40] rfl
  have hDc := hD.sub (ws' := [(y0, .inr (3, [.int 0, .int 0, .int 0, .int 0, .int 0, .null, .int 0, .null, .null, .null, .null, .null, .null, .int 0, .null, .null, .null, .null, .int 0, .null, .null, .null, .null]))]) [40] (by decide) rfl
  have hFc := va_free (wc := [(y0, .inr (3, [.int 0, .int 0, .int 0, .int 0, .int 0, .null, .int 0, .null, .null, .null, .null, .null, .null, .int 0, .null, .null, .null, .null, .int 0, .null, .null, .null, .null]))]) hD hS hA [40] rfl
  refine va_callv (va_runI (As := [.int (cv L xs 0), .int (cv L xs 1)]) (rest := [.ref y0]) ⟨hx, hb, hml, hown, hts⟩ (c_X4_init l dC dI cA y0 (cv L xs 0) (cv L xs 1) _ _ hw) (gcI 2 hts m526 m524 m525 m24 rfl rfl rfl (by decide +kernel) ⟨Nat.le_of_ble_eq_true rfl, Nat.le_of_ble_eq_true rfl⟩) ⟨xbl2, fun U hU hW => ⟨rfl, by rw [hU], by rw [hU]; exact hPc, va_K.moved hW.alike hK, hDc.weaken (fun _ _ _ _ => trivial)⟩⟩ rfl rfl hl.1 rfl (lv_room (Nat.le_of_ble_eq_true rfl)) dL_law_32 ⟨Nat.le_of_ble_eq_true rfl, Nat.le_of_ble_eq_true rfl⟩) hS (fun q _ h => hFc q h) hFc (fun u t H1 locs ht hvm hw hB hz1 hk1 hS => ?_)
  obtain ⟨gm, um⟩ := u
  obtain ⟨hg0, hw⟩ := hw
  obtain ⟨hP1, hK1, hD1⟩ := hB
  rw [ht] at hP1
  dsimp only at hg0 hw
  have hJ := va_join (wr := w_br ga gl cA n ua ++ wL gl cA n uL) (w1 := w_md gm cA um) hP hD [40] [0, 1, 2, 3, 4, 5, 6, 7, 8, 9, 10, 11, 12, 13, 14, 15, 16, 17, 18, 19, 20, 21, 22, 23, 24, 25, 26, 27, 28, 29, 30, 31, 32, 33, 34, 35, 36, 37, 38, 39] rfl rfl (by decide) (by decide) hk1 hFc hP1 hD1
  have hP : va_P (dC, dI) vwCl (w_br ga gl cA n ua ++ wL gl cA n uL ++ w_md gm cA um) H1 := hJ.1
  have hD : va_D A (w_br ga gl cA n ua ++ wL gl cA n uL ++ w_md gm cA um) := hJ.2
  clear hP1 hD1 hK1 hk1 hz1 hFc hDc hPc ht hJ
  generalize H1 = H at hP hS ⊢
  refine xtopv (y := .ref (gm 0)) (by rw [hg0]) ?_
  clear hg0
  refine lv_astore_n (lv' := [(2, .ref (gm 0)), (1, .ref (ga 0)), (0, .ref b)]) hx hb dL_law_35 rfl hl (by decide) rfl (fun ls hl => ?_)
  refine lv_iconst (v := 1) hx hb dL_law_36 (by decide) ?_
  refine xnewJ hx hb (hts _ (xm m755)) hK hP hD hS hA (N' := 1) (by decide) (by decide) (by decide) (Nat.le_of_ble_eq_true rfl) (Nat.le_of_ble_eq_true rfl) dL_law_37 (fun go H hP hD hS => ?_)
  have hP : va_P (dC, dI) vwCl (wLaw ga gl go gm cA n ua uL (fun _ => 0) um) H := hP.sub [0, 1, 2, 3, 4, 5, 6, 7, 8, 9, 10, 11, 12, 13, 14, 15, 16, 17, 18, 19, 20, 21, 22, 23, 24, 25, 26, 27, 28, 29, 30, 31, 32, 33, 34, 35, 36, 37, 38, 39, 56, 40, 41, 42, 43, 44, 45, 46, 47, 48, 49, 50, 51, 52, 53, 54, 55] rfl
  have hD : va_D A (wLaw ga gl go gm cA n ua uL (fun _ => 0) um) := hD.sub [0, 1, 2, 3, 4, 5, 6, 7, 8, 9, 10, 11, 12, 13, 14, 15, 16, 17, 18, 19, 20, 21, 22, 23, 24, 25, 26, 27, 28, 29, 30, 31, 32, 33, 34, 35, 36, 37, 38, 39, 56, 40, 41, 42, 43, 44, 45, 46, 47, 48, 49, 50, 51, 52, 53, 54, 55] (by decide) rfl
  refine lv_astore_n (lv' := [(3, .ref go), (2, .ref (gm 0)), (1, .ref (ga 0)), (0, .ref b)]) hx hb dL_law_39 rfl hl (by decide) rfl (fun ls hl => ?_)
  refine lv_iconst (v := 2) hx hb dL_law_40 (by decide) ?_
  refine lv_istore (lv' := [(4, .int 2), (3, .ref go), (2, .ref (gm 0)), (1, .ref (ga 0)), (0, .ref b)]) hx hb dL_law_41 hl (by decide) rfl (fun ls hl => ?_)
  obtain ⟨N, hN, hw⟩ := hw
  exact law_loop hr hlocks C1 hAs N 2 ua uL (fun _ => 0) um hw _ _ (by omega) (by omega) _ _ _ hP hD hS (lv_sub hl [4, 3, 2, 1, 0] rfl)
