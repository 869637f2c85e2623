
def wp_law (L : Nat) (xs : Nat → Int32) (n : Nat) : Nat → Int32 → (Nat → Nat → Int32) → (Nat → Nat → Nat → Int32) → (Nat → Int64) → (Nat → Nat → Int32) → Prop
  | 0, _, _, _, _, _ => False
  | N + 1, x4, ua, uL, uo, um =>
    ((Int32.ofNat L - 6) < x4 → True) ∧ (¬ (Int32.ofNat L - 6) < x4 → (vp_in x4 L ∧
    (((xs x4.toNatClampNeg &&& 15) = 0 → wp_case_told L xs n (wp_law L xs n N (x4 + 6)) x4 ua uL uo um) ∧
    (¬ (xs x4.toNatClampNeg &&& 15) = 0 → (((xs x4.toNatClampNeg &&& 15) = 1 → wp_case_bound L xs n (wp_law L xs n N (x4 + 6)) x4 ua uL uo um) ∧
    (¬ (xs x4.toNatClampNeg &&& 15) = 1 → (((xs x4.toNatClampNeg &&& 15) = 2 → wp_case_group L xs n (wp_law L xs n N (x4 + 6)) x4 ua uL uo um) ∧
    (¬ (xs x4.toNatClampNeg &&& 15) = 2 → (((xs x4.toNatClampNeg &&& 15) = 3 → wp_case_end L xs n (wp_law L xs n N (x4 + 6)) x4 ua uL uo um) ∧
    (¬ (xs x4.toNatClampNeg &&& 15) = 3 → (((xs x4.toNatClampNeg &&& 15) = 4 → wp_case_mask L xs n (wp_law L xs n N (x4 + 6)) x4 ua uL uo um) ∧
    (¬ (xs x4.toNatClampNeg &&& 15) = 4 → (((xs x4.toNatClampNeg &&& 15) = 5 → wp_case_unmask L xs n (wp_law L xs n N (x4 + 6)) x4 ua uL uo um) ∧
    (¬ (xs x4.toNatClampNeg &&& 15) = 5 → (((xs x4.toNatClampNeg &&& 15) = 6 → wp_case_colour L xs n (wp_law L xs n N (x4 + 6)) x4 ua uL uo um) ∧
    (¬ (xs x4.toNatClampNeg &&& 15) = 6 → (((xs x4.toNatClampNeg &&& 15) = 7 → wp_case_stays L xs n (wp_law L xs n N (x4 + 6)) x4 ua uL uo um) ∧
    (¬ (xs x4.toNatClampNeg &&& 15) = 7 → (((xs x4.toNatClampNeg &&& 15) = 8 → wp_case_cover L xs n (wp_law L xs n N (x4 + 6)) x4 ua uL uo um) ∧
    (¬ (xs x4.toNatClampNeg &&& 15) = 8 → (((xs x4.toNatClampNeg &&& 15) = 9 → wp_case_fill L xs n (wp_law L xs n N (x4 + 6)) x4 ua uL uo um) ∧
    (¬ (xs x4.toNatClampNeg &&& 15) = 9 → (((xs x4.toNatClampNeg &&& 15) = 10 → wp_case_mark L xs n (wp_law L xs n N (x4 + 6)) x4 ua uL uo um) ∧
    (¬ (xs x4.toNatClampNeg &&& 15) = 10 → (((xs x4.toNatClampNeg &&& 15) = 11 → wp_case_point L xs n (wp_law L xs n N (x4 + 6)) x4 ua uL uo um) ∧
    (¬ (xs x4.toNatClampNeg &&& 15) = 11 → (((xs x4.toNatClampNeg &&& 15) = 12 → wp_case_alpha L xs n (wp_law L xs n N (x4 + 6)) x4 ua uL uo um) ∧
    (¬ (xs x4.toNatClampNeg &&& 15) = 12 → (((xs x4.toNatClampNeg &&& 15) = 13 → wp_case_paper L xs n (wp_law L xs n N (x4 + 6)) x4 ua uL uo um) ∧
    (¬ (xs x4.toNatClampNeg &&& 15) = 13 → (((xs x4.toNatClampNeg &&& 15) = 14 → wp_case_separable L xs n (wp_law L xs n N (x4 + 6)) x4 ua uL uo um) ∧
    (¬ (xs x4.toNatClampNeg &&& 15) = 14 → (((xs x4.toNatClampNeg &&& 15) = 15 → wp_case_blend L xs n (wp_law L xs n N (x4 + 6)) x4 ua uL uo um) ∧
    (¬ (xs x4.toNatClampNeg &&& 15) = 15 → wp_law L xs n N (x4 + 6) ua uL uo um))))))))))))))))))))))))))))))))))
set_option maxHeartbeats 4000000 in
set_option maxRecDepth 100000 in
theorem law_loop {p : Program} {l : Launch} {e : Env} {s : State} {m : MethodId} {below : List Frame} {meth : Method} {c : Code} {dC : Nat → ClassId} {dI : Nat → Nat → Nat} {cA : Nat → ClassId} {sa : Nat → Nat} {b L : Nat} {xs : Nat → Int32} {ga : Nat → Nat} {gl : Nat → Nat → Nat} {go : Nat} {gm : Nat → Nat} {n : Nat} {A : Nat → Prop} (hr : meth.sig.returnType = ret) (hlocks : meth.locks = false) (C0 : lCx p l s m meth c dC dI cA sa b L xs A) (hAs : ∀ q, A q → s.heap.size ≤ q) :
    ∀ (N : Nat) (x4 : Int32) (ua : Nat → Nat → Int32) (uL : Nat → Nat → Nat → Int32) (uo : Nat → Int64) (um : Nat → Nat → Int32), wp_law L xs n N x4 ua uL uo um → ∀ (cells slots : Nat), cells + 3 * N ≤ 601024 → slots + 18 * N ≤ 7293000 → ∀ (H : Heap) (locs : List Loc) (ls : Array Slot), va_P (dC, dI) vwCl (wLaw ga gl go gm cA n ua uL uo um) H → va_D A (wLaw ga gl go gm cA n ua uL uo um) → va_S A s.heap H locs → lv_has ls 7 [(0, .ref b), (1, .ref (ga 0)), (2, .ref (gm 0)), (3, .ref go), (4, .int x4)] → W p l e room_1 s m #[Value.ref b] below meth c H locs cells slots (lw_Z below #[Value.ref b] s) (F0 m 43 ls []) := by
  obtain ⟨hx, hb, hml, hown, hts, hX, hbl, hbA, hA, hK, hE, hN1, hN2, hN3, hl0⟩ := id C0
  intro N
  induction N with
  | zero =>
    intro x4 ua uL uo um hw
    exact False.elim hw
  | succ N hk =>
    intro x4 ua uL uo um hw cells slots hc9 hs9 H locs ls hP hD hS hl
    rw [wp_law] at hw
    have hnext : ∀ (ua : Nat → Nat → Int32) (uL : Nat → Nat → Nat → Int32) (uo : Nat → Int64) (um : Nat → Nat → Int32), wp_law L xs n N (x4 + 6) ua uL uo um → ∀ (cells slots : Nat), cells ≤ 601024 - 3 * N → slots ≤ 7293000 - 18 * N → ∀ (H : Heap) (locs : List Loc) (ls : Array Slot), va_P (dC, dI) vwCl (wLaw ga gl go gm cA n ua uL uo um) H → va_D A (wLaw ga gl go gm cA n ua uL uo um) → va_S A s.heap H locs → lv_has ls 7 [(0, .ref b), (1, .ref (ga 0)), (2, .ref (gm 0)), (3, .ref go), (4, .int x4)] → W p l e room_1 s m #[Value.ref b] below meth c H locs cells slots (lw_Z below #[Value.ref b] s) (F0 m 1231 ls []) := by
      intro ua uL uo um hw cells slots h1 h2 H locs ls hP hD hS hl
      refine lv_iinc (v := x4 + 6) (lv' := [(4, .int (x4 + 6)), (0, .ref b), (1, .ref (ga 0)), (2, .ref (gm 0)), (3, .ref go)]) hx hb dL_law_1231 hl (k := 4) rfl rfl (by decide) rfl (fun ls hl => ?_)
      refine lv_goto (tgt := 43) hx hb dL_law_1234 (by decide) ?_
      exact hk _ _ _ _ _ hw _ _ (by omega) (by omega) _ _ _ hP hD hS (lv_sub hl [1, 2, 3, 4, 0] rfl)
    refine lv_iload hx hb dL_law_43 (lv_at hl 4 rfl) ?_
    refine lv_aload_n hx hb dL_law_45 rfl (lv_at hl 0 rfl) ?_
    refine va_slen hx hb hX hbl hbA hS dL_law_46 ?_
    refine lv_bipush (v := 6) hx hb dL_law_47 (by decide) ?_
    refine lv_isub hx hb dL_law_49 ?_
    refine lv_icmp_gt (tgt := 1237) hx hb dL_law_50 (by decide) (fun c1 => ?_) (fun c1 => ?_)
    · refine lv_iconst (v := 1) hx hb dL_law_1237 (by decide) ?_
      refine va_forget (fun q hq => hAs _ (hS.2.2 q hq)) ?_
      refine W.widen (k := 601024) (n := 7293000) (by omega) (by omega) ?_
      exact lw_ret hx hb hr hlocks dL_law_1238
    · replace hw := And.right hw c1
      have hv := And.left hw
      replace hw := And.right hw
      refine lv_aload_n hx hb dL_law_53 rfl (lv_at hl 0 rfl) ?_
      refine lv_iload hx hb dL_law_54 (lv_at hl 4 rfl) ?_
      refine va_sld hx hb hX hbl hbA hS hv dL_law_56 ?_
      refine lv_bipush (v := 15) hx hb dL_law_57 (by decide) ?_
      refine lv_iand hx hb dL_law_59 ?_
      by_cases c10 : (xs x4.toNatClampNeg &&& 15) = 0
      · replace hw := And.left hw c10
        refine lv_tableIn (tgt := 140) hx hb dL_law_60 (by rw [c10]; decide) (by rw [c10]; decide) (by rw [c10]; rfl) (by decide) ?_
        exact law_told C0 hnext ua uL uo um cells slots (by omega) (by omega) (by omega) (by omega) hw hP hD hS hl
      replace hw := And.right hw c10
      by_cases c11 : (xs x4.toNatClampNeg &&& 15) = 1
      · replace hw := And.left hw c11
        refine lv_tableIn (tgt := 196) hx hb dL_law_60 (by rw [c11]; decide) (by rw [c11]; decide) (by rw [c11]; rfl) (by decide) ?_
        exact law_bound C0 hnext ua uL uo um cells slots (by omega) (by omega) (by omega) (by omega) hw hP hD hS hl
      replace hw := And.right hw c11
      by_cases c12 : (xs x4.toNatClampNeg &&& 15) = 2
      · replace hw := And.left hw c12
        refine lv_tableIn (tgt := 232) hx hb dL_law_60 (by rw [c12]; decide) (by rw [c12]; decide) (by rw [c12]; rfl) (by decide) ?_
        exact law_group C0 hnext ua uL uo um cells slots (by omega) (by omega) (by omega) (by omega) hw hP hD hS hl
      replace hw := And.right hw c12
      by_cases c13 : (xs x4.toNatClampNeg &&& 15) = 3
      · replace hw := And.left hw c13
        refine lv_tableIn (tgt := 332) hx hb dL_law_60 (by rw [c13]; decide) (by rw [c13]; decide) (by rw [c13]; rfl) (by decide) ?_
        exact law_end C0 hnext ua uL uo um cells slots (by omega) (by omega) (by omega) (by omega) hw hP hD hS hl
      replace hw := And.right hw c13
      by_cases c14 : (xs x4.toNatClampNeg &&& 15) = 4
      · replace hw := And.left hw c14
        refine lv_tableIn (tgt := 400) hx hb dL_law_60 (by rw [c14]; decide) (by rw [c14]; decide) (by rw [c14]; rfl) (by decide) ?_
        exact law_mask C0 hnext ua uL uo um cells slots (by omega) (by omega) (by omega) (by omega) hw hP hD hS hl
      replace hw := And.right hw c14
      by_cases c15 : (xs x4.toNatClampNeg &&& 15) = 5
      · replace hw := And.left hw c15
        refine lv_tableIn (tgt := 484) hx hb dL_law_60 (by rw [c15]; decide) (by rw [c15]; decide) (by rw [c15]; rfl) (by decide) ?_
        exact law_unmask C0 hnext ua uL uo um cells slots (by omega) (by omega) (by omega) (by omega) hw hP hD hS hl
      replace hw := And.right hw c15
      by_cases c16 : (xs x4.toNatClampNeg &&& 15) = 6
      · replace hw := And.left hw c16
        refine lv_tableIn (tgt := 495) hx hb dL_law_60 (by rw [c16]; decide) (by rw [c16]; decide) (by rw [c16]; rfl) (by decide) ?_
        exact law_colour C0 hnext ua uL uo um cells slots (by omega) (by omega) (by omega) (by omega) hw hP hD hS hl
      replace hw := And.right hw c16
      by_cases c17 : (xs x4.toNatClampNeg &&& 15) = 7
      · replace hw := And.left hw c17
        refine lv_tableIn (tgt := 543) hx hb dL_law_60 (by rw [c17]; decide) (by rw [c17]; decide) (by rw [c17]; rfl) (by decide) ?_
        exact law_stays C0 hnext ua uL uo um cells slots (by omega) (by omega) (by omega) (by omega) hw hP hD hS hl
      replace hw := And.right hw c17
      by_cases c18 : (xs x4.toNatClampNeg &&& 15) = 8
      · replace hw := And.left hw c18
        refine lv_tableIn (tgt := 607) hx hb dL_law_60 (by rw [c18]; decide) (by rw [c18]; decide) (by rw [c18]; rfl) (by decide) ?_
        exact law_cover C0 hnext ua uL uo um cells slots (by omega) (by omega) (by omega) (by omega) hw hP hD hS hl
      replace hw := And.right hw c18
      by_cases c19 : (xs x4.toNatClampNeg &&& 15) = 9
      · replace hw := And.left hw c19
        refine lv_tableIn (tgt := 667) hx hb dL_law_60 (by rw [c19]; decide) (by rw [c19]; decide) (by rw [c19]; rfl) (by decide) ?_
        exact law_fill C0 hnext ua uL uo um cells slots (by omega) (by omega) (by omega) (by omega) hw hP hD hS hl
      replace hw := And.right hw c19
      by_cases c20 : (xs x4.toNatClampNeg &&& 15) = 10
      · replace hw := And.left hw c20
        refine lv_tableIn (tgt := 751) hx hb dL_law_60 (by rw [c20]; decide) (by rw [c20]; decide) (by rw [c20]; rfl) (by decide) ?_
        exact law_mark C0 hnext ua uL uo um cells slots (by omega) (by omega) (by omega) (by omega) hw hP hD hS hl
      replace hw := And.right hw c20
      by_cases c21 : (xs x4.toNatClampNeg &&& 15) = 11
      · replace hw := And.left hw c21
        refine lv_tableIn (tgt := 831) hx hb dL_law_60 (by rw [c21]; decide) (by rw [c21]; decide) (by rw [c21]; rfl) (by decide) ?_
        exact law_point C0 hnext ua uL uo um cells slots (by omega) (by omega) (by omega) (by omega) hw hP hD hS hl
      replace hw := And.right hw c21
      by_cases c22 : (xs x4.toNatClampNeg &&& 15) = 12
      · replace hw := And.left hw c22
        refine lv_tableIn (tgt := 911) hx hb dL_law_60 (by rw [c22]; decide) (by rw [c22]; decide) (by rw [c22]; rfl) (by decide) ?_
        exact law_alpha C0 hnext ua uL uo um cells slots (by omega) (by omega) (by omega) (by omega) hw hP hD hS hl
      replace hw := And.right hw c22
      by_cases c23 : (xs x4.toNatClampNeg &&& 15) = 13
      · replace hw := And.left hw c23
        refine lv_tableIn (tgt := 991) hx hb dL_law_60 (by rw [c23]; decide) (by rw [c23]; decide) (by rw [c23]; rfl) (by decide) ?_
        exact law_paper C0 hnext ua uL uo um cells slots (by omega) (by omega) (by omega) (by omega) hw hP hD hS hl
      replace hw := And.right hw c23
      by_cases c24 : (xs x4.toNatClampNeg &&& 15) = 14
      · replace hw := And.left hw c24
        refine lv_tableIn (tgt := 1071) hx hb dL_law_60 (by rw [c24]; decide) (by rw [c24]; decide) (by rw [c24]; rfl) (by decide) ?_
        exact law_separable C0 hnext ua uL uo um cells slots (by omega) (by omega) (by omega) (by omega) hw hP hD hS hl
      replace hw := And.right hw c24
      by_cases c25 : (xs x4.toNatClampNeg &&& 15) = 15
      · replace hw := And.left hw c25
        refine lv_tableIn (tgt := 1151) hx hb dL_law_60 (by rw [c25]; decide) (by rw [c25]; decide) (by rw [c25]; rfl) (by decide) ?_
        exact law_blend C0 hnext ua uL uo um cells slots (by omega) (by omega) (by omega) (by omega) hw hP hD hS hl
      replace hw := And.right hw c25
      refine lv_tableOut (tgt := 1231) hx hb dL_law_60 (xsw0_15 (fun k hk => ?_)) (by decide) ?_
      · rcases (show k = 0 ∨ k = 1 ∨ k = 2 ∨ k = 3 ∨ k = 4 ∨ k = 5 ∨ k = 6 ∨ k = 7 ∨ k = 8 ∨ k = 9 ∨ k = 10 ∨ k = 11 ∨ k = 12 ∨ k = 13 ∨ k = 14 ∨ k = 15 by omega) with rfl | rfl | rfl | rfl | rfl | rfl | rfl | rfl | rfl | rfl | rfl | rfl | rfl | rfl | rfl | rfl
        · exact c10
        · exact c11
        · exact c12
        · exact c13
        · exact c14
        · exact c15
        · exact c16
        · exact c17
        · exact c18
        · exact c19
        · exact c20
        · exact c21
        · exact c22
        · exact c23
        · exact c24
        · exact c25
      · exact hnext _ _ _ _ hw _ _ (by omega) (by omega) _ _ _ hP hD hS hl
