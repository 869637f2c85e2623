theorem m20 : Cond.initialized yL_told.cls ∈ gG := gG_mk (i := 20) (by decide +kernel) (by decide +kernel)
theorem m119 : Cond.methodLink RL 107 yX3_unmask ∈ gG := gG_mk (i := 119) (by decide +kernel) (by decide +kernel)
theorem m120 : Cond.instanceMethod yX3_unmask ∈ gG := gG_mk (i := 120) (by decide +kernel) (by decide +kernel)
theorem m121 : Cond.selects RX3 yX3_unmask yX3_unmask ∈ gG := gG_mk (i := 121) (by decide +kernel) (by decide +kernel)
theorem m122 : Cond.code yX3_unmask cX3_unmask 1 none ∈ gG := gG_mk (i := 122) (by decide +kernel) (by decide +kernel)
theorem m126 : Cond.methodLink RL 83 yL_told ∈ gG := gG_mk (i := 126) (by decide +kernel) (by decide +kernel)
theorem m127 : Cond.static yL_told ∈ gG := gG_mk (i := 127) (by decide +kernel) (by decide +kernel)
theorem m128 : Cond.codeWith yL_told cL_told 4 (some .int) [(0, 9, 12, 13)] ∈ gG := gG_mk (i := 128) (by decide +kernel) (by decide +kernel)
theorem m203 : Cond.methodLink RL 91 yL_bound ∈ gG := gG_mk (i := 203) (by decide +kernel) (by decide +kernel)
theorem m204 : Cond.static yL_bound ∈ gG := gG_mk (i := 204) (by decide +kernel) (by decide +kernel)
theorem m205 : Cond.codeWith yL_bound cL_bound 3 (some .int) [(0, 5, 8, 13)] ∈ gG := gG_mk (i := 205) (by decide +kernel) (by decide +kernel)
theorem m211 : Cond.methodLink RL 95 yL_group ∈ gG := gG_mk (i := 211) (by decide +kernel) (by decide +kernel)
theorem m212 : Cond.static yL_group ∈ gG := gG_mk (i := 212) (by decide +kernel) (by decide +kernel)
theorem m213 : Cond.codeWith yL_group cL_group 5 (some .int) [(0, 10, 13, 23)] ∈ gG := gG_mk (i := 213) (by decide +kernel) (by decide +kernel)
theorem m261 : Cond.methodLink RL 99 yL_end ∈ gG := gG_mk (i := 261) (by decide +kernel) (by decide +kernel)
theorem m262 : Cond.static yL_end ∈ gG := gG_mk (i := 262) (by decide +kernel) (by decide +kernel)
theorem m263 : Cond.codeWith yL_end cL_end 5 (some .int) [(0, 10, 13, 29), (0, 10, 17, 13)] ∈ gG := gG_mk (i := 263) (by decide +kernel) (by decide +kernel)
theorem m396 : Cond.methodLink RL 103 yL_mask ∈ gG := gG_mk (i := 396) (by decide +kernel) (by decide +kernel)
theorem m397 : Cond.static yL_mask ∈ gG := gG_mk (i := 397) (by decide +kernel) (by decide +kernel)
theorem m398 : Cond.codeWith yL_mask cL_mask 5 (some .int) [(0, 10, 13, 29), (0, 10, 17, 13)] ∈ gG := gG_mk (i := 398) (by decide +kernel) (by decide +kernel)
theorem m411 : Cond.methodLink RL 111 yL_colour ∈ gG := gG_mk (i := 411) (by decide +kernel) (by decide +kernel)
theorem m412 : Cond.static yL_colour ∈ gG := gG_mk (i := 412) (by decide +kernel) (by decide +kernel)
theorem m413 : Cond.codeWith yL_colour cL_colour 4 (some .int) [(0, 6, 9, 13), (0, 6, 12, 39)] ∈ gG := gG_mk (i := 413) (by decide +kernel) (by decide +kernel)
theorem m443 : Cond.methodLink RL 115 yL_stays ∈ gG := gG_mk (i := 443) (by decide +kernel) (by decide +kernel)
theorem m444 : Cond.static yL_stays ∈ gG := gG_mk (i := 444) (by decide +kernel) (by decide +kernel)
theorem m445 : Cond.codeWith yL_stays cL_stays 4 (some .int) [(0, 6, 9, 39)] ∈ gG := gG_mk (i := 445) (by decide +kernel) (by decide +kernel)
theorem m450 : Cond.methodLink RL 119 yL_cover ∈ gG := gG_mk (i := 450) (by decide +kernel) (by decide +kernel)
theorem m451 : Cond.static yL_cover ∈ gG := gG_mk (i := 451) (by decide +kernel) (by decide +kernel)
theorem m452 : Cond.codeWith yL_cover cL_cover 5 (some .int) [(0, 7, 10, 13), (0, 7, 14, 39)] ∈ gG := gG_mk (i := 452) (by decide +kernel) (by decide +kernel)
theorem m462 : Cond.methodLink RL 123 yL_fill ∈ gG := gG_mk (i := 462) (by decide +kernel) (by decide +kernel)
theorem m463 : Cond.static yL_fill ∈ gG := gG_mk (i := 463) (by decide +kernel) (by decide +kernel)
theorem m464 : Cond.codeWith yL_fill cL_fill 7 (some .int) [(0, 11, 14, 13)] ∈ gG := gG_mk (i := 464) (by decide +kernel) (by decide +kernel)
theorem m469 : Cond.methodLink RL 127 yL_mark ∈ gG := gG_mk (i := 469) (by decide +kernel) (by decide +kernel)
theorem m470 : Cond.static yL_mark ∈ gG := gG_mk (i := 470) (by decide +kernel) (by decide +kernel)
theorem m471 : Cond.codeWith yL_mark cL_mark 6 (some .int) [(0, 12, 15, 13)] ∈ gG := gG_mk (i := 471) (by decide +kernel) (by decide +kernel)
theorem m476 : Cond.methodLink RL 131 yL_point ∈ gG := gG_mk (i := 476) (by decide +kernel) (by decide +kernel)
theorem m477 : Cond.static yL_point ∈ gG := gG_mk (i := 477) (by decide +kernel) (by decide +kernel)
theorem m478 : Cond.codeWith yL_point cL_point 6 (some .int) [(0, 12, 15, 39)] ∈ gG := gG_mk (i := 478) (by decide +kernel) (by decide +kernel)
theorem m485 : Cond.methodLink RL 134 yL_alpha ∈ gG := gG_mk (i := 485) (by decide +kernel) (by decide +kernel)
theorem m486 : Cond.static yL_alpha ∈ gG := gG_mk (i := 486) (by decide +kernel) (by decide +kernel)
theorem m487 : Cond.codeWith yL_alpha cL_alpha 6 (some .int) [(0, 12, 15, 39), (0, 12, 19, 13)] ∈ gG := gG_mk (i := 487) (by decide +kernel) (by decide +kernel)
theorem m494 : Cond.methodLink RL 137 yL_paper ∈ gG := gG_mk (i := 494) (by decide +kernel) (by decide +kernel)
theorem m495 : Cond.static yL_paper ∈ gG := gG_mk (i := 495) (by decide +kernel) (by decide +kernel)
theorem m496 : Cond.codeWith yL_paper cL_paper 6 (some .int) [(0, 12, 15, 39)] ∈ gG := gG_mk (i := 496) (by decide +kernel) (by decide +kernel)
theorem m501 : Cond.methodLink RL 140 yL_separable ∈ gG := gG_mk (i := 501) (by decide +kernel) (by decide +kernel)
theorem m502 : Cond.static yL_separable ∈ gG := gG_mk (i := 502) (by decide +kernel) (by decide +kernel)
theorem m503 : Cond.codeWith yL_separable cL_separable 6 (some .int) [(0, 12, 15, 13)] ∈ gG := gG_mk (i := 503) (by decide +kernel) (by decide +kernel)
theorem m509 : Cond.methodLink RL 143 yL_blend ∈ gG := gG_mk (i := 509) (by decide +kernel) (by decide +kernel)
theorem m510 : Cond.static yL_blend ∈ gG := gG_mk (i := 510) (by decide +kernel) (by decide +kernel)
theorem m511 : Cond.codeWith yL_blend cL_blend 6 (some .int) [(0, 12, 15, 13)] ∈ gG := gG_mk (i := 511) (by decide +kernel) (by decide +kernel)
theorem m599 : Cond.methodLink RL 87 yX4_thrown ∈ gG := gG_mk (i := 599) (by decide +kernel) (by decide +kernel)
theorem m600 : Cond.instanceMethod yX4_thrown ∈ gG := gG_mk (i := 600) (by decide +kernel) (by decide +kernel)
theorem m601 : Cond.selects RX4 yX4_thrown yX4_thrown ∈ gG := gG_mk (i := 601) (by decide +kernel) (by decide +kernel)
theorem m602 : Cond.code yX4_thrown cX4_thrown 1 (some .int) ∈ gG := gG_mk (i := 602) (by decide +kernel) (by decide +kernel)
theorem m603 : Cond.methodLink RL 86 yX4_told ∈ gG := gG_mk (i := 603) (by decide +kernel) (by decide +kernel)
theorem m604 : Cond.instanceMethod yX4_told ∈ gG := gG_mk (i := 604) (by decide +kernel) (by decide +kernel)
theorem m605 : Cond.selects RX4 yX4_told yX4_told ∈ gG := gG_mk (i := 605) (by decide +kernel) (by decide +kernel)
theorem m606 : Cond.code yX4_told cX4_told 2 (some .int) ∈ gG := gG_mk (i := 606) (by decide +kernel) (by decide +kernel)
theorem m607 : Cond.methodLink RL 94 yX4_bound ∈ gG := gG_mk (i := 607) (by decide +kernel) (by decide +kernel)
theorem m608 : Cond.instanceMethod yX4_bound ∈ gG := gG_mk (i := 608) (by decide +kernel) (by decide +kernel)
theorem m609 : Cond.selects RX4 yX4_bound yX4_bound ∈ gG := gG_mk (i := 609) (by decide +kernel) (by decide +kernel)
theorem m610 : Cond.code yX4_bound cX4_bound 2 none ∈ gG := gG_mk (i := 610) (by decide +kernel) (by decide +kernel)
theorem m611 : Cond.methodLink RL 98 yX4_group ∈ gG := gG_mk (i := 611) (by decide +kernel) (by decide +kernel)
theorem m612 : Cond.instanceMethod yX4_group ∈ gG := gG_mk (i := 612) (by decide +kernel) (by decide +kernel)
theorem m613 : Cond.selects RX4 yX4_group yX4_group ∈ gG := gG_mk (i := 613) (by decide +kernel) (by decide +kernel)
theorem m614 : Cond.code yX4_group cX4_group 9 (some .int) ∈ gG := gG_mk (i := 614) (by decide +kernel) (by decide +kernel)
theorem m622 : Cond.methodLink RL 102 yX4_end ∈ gG := gG_mk (i := 622) (by decide +kernel) (by decide +kernel)
theorem m623 : Cond.instanceMethod yX4_end ∈ gG := gG_mk (i := 623) (by decide +kernel) (by decide +kernel)
theorem m624 : Cond.selects RX4 yX4_end yX4_end ∈ gG := gG_mk (i := 624) (by decide +kernel) (by decide +kernel)
theorem m625 : Cond.code yX4_end cX4_end 9 (some .int) ∈ gG := gG_mk (i := 625) (by decide +kernel) (by decide +kernel)
theorem m695 : Cond.methodLink RL 106 yX4_mask ∈ gG := gG_mk (i := 695) (by decide +kernel) (by decide +kernel)
theorem m696 : Cond.instanceMethod yX4_mask ∈ gG := gG_mk (i := 696) (by decide +kernel) (by decide +kernel)
theorem m697 : Cond.selects RX4 yX4_mask yX4_mask ∈ gG := gG_mk (i := 697) (by decide +kernel) (by decide +kernel)
theorem m698 : Cond.code yX4_mask cX4_mask 7 (some .int) ∈ gG := gG_mk (i := 698) (by decide +kernel) (by decide +kernel)
theorem m699 : Cond.methodLink RL 110 yX4_unmask ∈ gG := gG_mk (i := 699) (by decide +kernel) (by decide +kernel)
theorem m700 : Cond.instanceMethod yX4_unmask ∈ gG := gG_mk (i := 700) (by decide +kernel) (by decide +kernel)
theorem m701 : Cond.selects RX4 yX4_unmask yX4_unmask ∈ gG := gG_mk (i := 701) (by decide +kernel) (by decide +kernel)
theorem m702 : Cond.code yX4_unmask cX4_unmask 1 none ∈ gG := gG_mk (i := 702) (by decide +kernel) (by decide +kernel)
theorem m703 : Cond.methodLink RL 114 yX4_colour ∈ gG := gG_mk (i := 703) (by decide +kernel) (by decide +kernel)
theorem m704 : Cond.instanceMethod yX4_colour ∈ gG := gG_mk (i := 704) (by decide +kernel) (by decide +kernel)
theorem m705 : Cond.selects RX4 yX4_colour yX4_colour ∈ gG := gG_mk (i := 705) (by decide +kernel) (by decide +kernel)
theorem m706 : Cond.code yX4_colour cX4_colour 3 none ∈ gG := gG_mk (i := 706) (by decide +kernel) (by decide +kernel)
theorem m710 : Cond.methodLink RL 118 yX4_stays ∈ gG := gG_mk (i := 710) (by decide +kernel) (by decide +kernel)
theorem m711 : Cond.instanceMethod yX4_stays ∈ gG := gG_mk (i := 711) (by decide +kernel) (by decide +kernel)
theorem m712 : Cond.selects RX4 yX4_stays yX4_stays ∈ gG := gG_mk (i := 712) (by decide +kernel) (by decide +kernel)
theorem m713 : Cond.code yX4_stays cX4_stays 3 none ∈ gG := gG_mk (i := 713) (by decide +kernel) (by decide +kernel)
theorem m714 : Cond.methodLink RL 122 yX4_cover ∈ gG := gG_mk (i := 714) (by decide +kernel) (by decide +kernel)
theorem m715 : Cond.instanceMethod yX4_cover ∈ gG := gG_mk (i := 715) (by decide +kernel) (by decide +kernel)
theorem m716 : Cond.selects RX4 yX4_cover yX4_cover ∈ gG := gG_mk (i := 716) (by decide +kernel) (by decide +kernel)
theorem m717 : Cond.code yX4_cover cX4_cover 4 none ∈ gG := gG_mk (i := 717) (by decide +kernel) (by decide +kernel)
theorem m722 : Cond.methodLink RL 126 yX4_fill ∈ gG := gG_mk (i := 722) (by decide +kernel) (by decide +kernel)
theorem m723 : Cond.instanceMethod yX4_fill ∈ gG := gG_mk (i := 723) (by decide +kernel) (by decide +kernel)
theorem m724 : Cond.selects RX4 yX4_fill yX4_fill ∈ gG := gG_mk (i := 724) (by decide +kernel) (by decide +kernel)
theorem m725 : Cond.code yX4_fill cX4_fill 8 none ∈ gG := gG_mk (i := 725) (by decide +kernel) (by decide +kernel)
theorem m726 : Cond.methodLink RL 130 yX4_mark ∈ gG := gG_mk (i := 726) (by decide +kernel) (by decide +kernel)
theorem m727 : Cond.instanceMethod yX4_mark ∈ gG := gG_mk (i := 727) (by decide +kernel) (by decide +kernel)
theorem m728 : Cond.selects RX4 yX4_mark yX4_mark ∈ gG := gG_mk (i := 728) (by decide +kernel) (by decide +kernel)
theorem m729 : Cond.code yX4_mark cX4_mark 11 (some .int) ∈ gG := gG_mk (i := 729) (by decide +kernel) (by decide +kernel)
theorem m734 : Cond.methodLink RL 133 yX4_point ∈ gG := gG_mk (i := 734) (by decide +kernel) (by decide +kernel)
theorem m735 : Cond.instanceMethod yX4_point ∈ gG := gG_mk (i := 735) (by decide +kernel) (by decide +kernel)
theorem m736 : Cond.selects RX4 yX4_point yX4_point ∈ gG := gG_mk (i := 736) (by decide +kernel) (by decide +kernel)
theorem m737 : Cond.code yX4_point cX4_point 4 (some .int) ∈ gG := gG_mk (i := 737) (by decide +kernel) (by decide +kernel)
theorem m738 : Cond.methodLink RL 136 yX4_alpha ∈ gG := gG_mk (i := 738) (by decide +kernel) (by decide +kernel)
theorem m739 : Cond.instanceMethod yX4_alpha ∈ gG := gG_mk (i := 739) (by decide +kernel) (by decide +kernel)
theorem m740 : Cond.selects RX4 yX4_alpha yX4_alpha ∈ gG := gG_mk (i := 740) (by decide +kernel) (by decide +kernel)
theorem m741 : Cond.code yX4_alpha cX4_alpha 6 (some .int) ∈ gG := gG_mk (i := 741) (by decide +kernel) (by decide +kernel)
theorem m742 : Cond.methodLink RL 139 yX4_paper ∈ gG := gG_mk (i := 742) (by decide +kernel) (by decide +kernel)
theorem m743 : Cond.instanceMethod yX4_paper ∈ gG := gG_mk (i := 743) (by decide +kernel) (by decide +kernel)
theorem m744 : Cond.selects RX4 yX4_paper yX4_paper ∈ gG := gG_mk (i := 744) (by decide +kernel) (by decide +kernel)
theorem m745 : Cond.code yX4_paper cX4_paper 5 (some .int) ∈ gG := gG_mk (i := 745) (by decide +kernel) (by decide +kernel)
theorem m746 : Cond.methodLink RL 142 yX4_separable ∈ gG := gG_mk (i := 746) (by decide +kernel) (by decide +kernel)
theorem m747 : Cond.instanceMethod yX4_separable ∈ gG := gG_mk (i := 747) (by decide +kernel) (by decide +kernel)
theorem m748 : Cond.selects RX4 yX4_separable yX4_separable ∈ gG := gG_mk (i := 748) (by decide +kernel) (by decide +kernel)
theorem m749 : Cond.code yX4_separable cX4_separable 4 (some .int) ∈ gG := gG_mk (i := 749) (by decide +kernel) (by decide +kernel)
theorem m750 : Cond.methodLink RL 145 yX4_blend ∈ gG := gG_mk (i := 750) (by decide +kernel) (by decide +kernel)
theorem m751 : Cond.instanceMethod yX4_blend ∈ gG := gG_mk (i := 751) (by decide +kernel) (by decide +kernel)
theorem m752 : Cond.selects RX4 yX4_blend yX4_blend ∈ gG := gG_mk (i := 752) (by decide +kernel) (by decide +kernel)
theorem m753 : Cond.code yX4_blend cX4_blend 6 (some .int) ∈ gG := gG_mk (i := 753) (by decide +kernel) (by decide +kernel)
def wp_case_told (L : Nat) (xs : Nat → Int32) (n : Nat) (NX : (Nat → Nat → Int32) → (Nat → Nat → Nat → Int32) → (Nat → Int64) → (Nat → Nat → Int32) → Prop) (x4 : Int32) (ua : Nat → Nat → Int32) (uL : Nat → Nat → Nat → Int32) (uo : Nat → Int64) (um : Nat → Nat → Int32) : Prop :=
  (vp_in (x4 + 1) L ∧ (wp_L_told n ua uL uo (xs (x4 + 1).toNatClampNeg) (fun k5 ua1 uL2 uo3 => wp_X4_told um (xs (x4 + 1).toNatClampNeg) (fun b6 um4 => wp_X4_thrown um4 (fun tt => (tt = k5 ∧ ((k5 = 0 → uo3 0 = b6.toInt64) ∧ NX ua1 uL2 uo3 um4)))))))
set_option maxHeartbeats 4000000 in
set_option maxRecDepth 100000 in
theorem law_told {p : Program} {l : Launch} {e : Env} {s : State} {m : MethodId} {below : List Frame} {meth : Method} {c : Code} {dC : Nat → ClassId} {dI : Nat → Nat → Nat} {cA : Nat → ClassId} {sa : Nat → Nat} {b L : Nat} {xs : Nat → Int32} {ga : Nat → Nat} {gl : Nat → Nat → Nat} {go : Nat} {gm : Nat → Nat} {n : Nat} {A : Nat → Prop} {NX : (Nat → Nat → Int32) → (Nat → Nat → Nat → Int32) → (Nat → Int64) → (Nat → Nat → Int32) → Prop} {x4 : Int32} {cM sM : Nat} (C0 : lCx p l s m meth c dC dI cA sa b L xs A) (hnext : ∀ (ua : Nat → Nat → Int32) (uL : Nat → Nat → Nat → Int32) (uo : Nat → Int64) (um : Nat → Nat → Int32), NX ua uL uo um → ∀ (cells slots : Nat), cells ≤ cM → slots ≤ sM → ∀ (H : Heap) (locs : List Loc) (ls : Array Slot), va_P (dC, dI) vwCl (wLaw ga gl go gm cA n ua uL uo um) H → va_D A (wLaw ga gl go gm cA n ua uL uo um) → va_S A s.heap H locs → lv_has ls 7 [(0, .ref b), (1, .ref (ga 0)), (2, .ref (gm 0)), (3, .ref go), (4, .int x4)] → W p l e room_1 s m #[Value.ref b] below meth c H locs cells slots (lw_Z below #[Value.ref b] s) (F0 m 1231 ls []))
    (ua : Nat → Nat → Int32) (uL : Nat → Nat → Nat → Int32) (uo : Nat → Int64) (um : Nat → Nat → Int32) {ls : Array Slot} {H : Heap} {locs : List Loc} (cells slots : Nat) (hc9 : cells + 3 ≤ cM) (hs9 : slots + 18 ≤ sM) (hcM : cM ≤ 601024) (hsM : sM ≤ 7293000) (hw : wp_case_told L xs n NX x4 ua uL uo um) (hP : va_P (dC, dI) vwCl (wLaw ga gl go gm cA n ua uL uo um) H) (hD : va_D A (wLaw ga gl go gm cA n ua uL uo um)) (hS : va_S A s.heap H locs) (hl : lv_has ls 7 [(0, .ref b), (1, .ref (ga 0)), (2, .ref (gm 0)), (3, .ref go), (4, .int x4)]) : W p l e room_1 s m #[Value.ref b] below meth c H locs cells slots (lw_Z below #[Value.ref b] s) (F0 m 140 ls []) := by
  obtain ⟨hx, hb, hml, hown, hts, hX, hbl, hbA, hA, hK, hE, hN1, hN2, hN3, hl0⟩ := C0
  refine lv_aload_n hx hb dL_law_140 rfl (lv_at hl 1 rfl) ?_
  refine lv_aload_n hx hb dL_law_141 rfl (lv_at hl 0 rfl) ?_
  refine lv_iload hx hb dL_law_142 (lv_at hl 4 rfl) ?_
  refine lv_iconst (v := 1) hx hb dL_law_144 (by decide) ?_
  refine lv_iadd hx hb dL_law_145 ?_
  have hv0 := And.left hw
  replace hw := And.right hw
  refine va_sld hx hb hX hbl hbA hS hv0 dL_law_146 ?_
  refine lv_aload_n hx hb dL_law_147 rfl (lv_at hl 3 rfl) ?_
  have hPc := hP.sub (ws' := (wG ga gl go cA n ua uL uo)) [0, 1, 2, 3, 4, 5, 6, 7, 8, 9, 10, 11, 12, 13, 14, 15, 16, 17, 18, 19, 20, 21, 22, 23, 24, 25, 26, 27, 28, 29, 30, 31, 32, 33, 34, 35, 36, 37, 38, 39, 40] rfl
  have hDc := hD.sub (ws' := (wG ga gl go cA n ua uL uo)) [0, 1, 2, 3, 4, 5, 6, 7, 8, 9, 10, 11, 12, 13, 14, 15, 16, 17, 18, 19, 20, 21, 22, 23, 24, 25, 26, 27, 28, 29, 30, 31, 32, 33, 34, 35, 36, 37, 38, 39, 40] (by decide) rfl
  have hFc := va_free (wc := (wG ga gl go cA n ua uL uo)) hD hS hA [0, 1, 2, 3, 4, 5, 6, 7, 8, 9, 10, 11, 12, 13, 14, 15, 16, 17, 18, 19, 20, 21, 22, 23, 24, 25, 26, 27, 28, 29, 30, 31, 32, 33, 34, 35, 36, 37, 38, 39, 40] rfl
  refine va_calli (vx_runSW (As := [.ref (ga 0), .int (xs (x4 + 1).toNatClampNeg), .ref go]) (rest := []) ⟨hx, hb, hml, hown, hts⟩ (c_L_told l hl0 dC dI cA sa ga gl go n _ ua uL uo (xs (x4 + 1).toNatClampNeg) _ hw) (gcSW 3 hts (fun w h => xm h) m128 m126 m127 m20 rfl rfl (by decide +kernel) ⟨Nat.le_of_ble_eq_true rfl, Nat.le_of_ble_eq_true rfl⟩) ⟨xbl2w, fun U hU hW => ⟨rfl, by rw [hU], by rw [hU]; exact hPc, va_K.moved hW.alike hK, hDc.weaken (fun _ _ _ _ => trivial), xEmvA hE hW hS hU, va_Nc.moved hW.alike hN1, va_Nc.moved hW.alike hN2, va_Nc.moved hW.alike hN3⟩⟩ rfl rfl hl.1 rfl (lv_room (Nat.le_of_ble_eq_true rfl)) dL_law_148 ⟨show (cells) + 1 ≤ 601024 by omega, show (slots) + 6 ≤ 7293000 by omega⟩) hS (fun q _ h => hFc q h) hFc (fun k5 u t H1 locs ht hvm hw hB hz1 hk1 hS => ?_)
  obtain ⟨ua1, uL2, uo3⟩ := u
  obtain ⟨hP1, hK1, hD1⟩ := hB
  rw [ht] at hP1
  dsimp only at hw
  have hJ := va_join (wr := w_md gm cA um) (w1 := wG ga gl go cA n ua1 uL2 uo3) hP hD [0, 1, 2, 3, 4, 5, 6, 7, 8, 9, 10, 11, 12, 13, 14, 15, 16, 17, 18, 19, 20, 21, 22, 23, 24, 25, 26, 27, 28, 29, 30, 31, 32, 33, 34, 35, 36, 37, 38, 39, 40] [41, 42, 43, 44, 45, 46, 47, 48, 49, 50, 51, 52, 53, 54, 55, 56] rfl rfl (by decide) (by decide) hk1 hFc hP1 hD1
  have hP : va_P (dC, dI) vwCl (wLaw ga gl go gm cA n ua1 uL2 uo3 um) H1 := hJ.1.sub [16, 17, 18, 19, 20, 21, 22, 23, 24, 25, 26, 27, 28, 29, 30, 31, 32, 33, 34, 35, 36, 37, 38, 39, 40, 41, 42, 43, 44, 45, 46, 47, 48, 49, 50, 51, 52, 53, 54, 55, 56, 0, 1, 2, 3, 4, 5, 6, 7, 8, 9, 10, 11, 12, 13, 14, 15] rfl
  have hD : va_D A (wLaw ga gl go gm cA n ua1 uL2 uo3 um) := hJ.2.sub [16, 17, 18, 19, 20, 21, 22, 23, 24, 25, 26, 27, 28, 29, 30, 31, 32, 33, 34, 35, 36, 37, 38, 39, 40, 41, 42, 43, 44, 45, 46, 47, 48, 49, 50, 51, 52, 53, 54, 55, 56, 0, 1, 2, 3, 4, 5, 6, 7, 8, 9, 10, 11, 12, 13, 14, 15] (by decide) rfl
  clear hP1 hD1 hK1 hk1 hz1 hFc hDc hPc ht hJ
  generalize H1 = H at hP hS ⊢
  refine lv_istore (lv' := [(5, .int k5), (0, .ref b), (1, .ref (ga 0)), (2, .ref (gm 0)), (3, .ref go), (4, .int x4)]) hx hb dL_law_151 hl (by decide) rfl (fun ls hl => ?_)
  refine lv_aload_n hx hb dL_law_153 rfl (lv_at hl 3 rfl) ?_
  refine lv_aload_n hx hb dL_law_154 rfl (lv_at hl 1 rfl) ?_
  refine lv_iload hx hb dL_law_155 (lv_at hl 5 rfl) ?_
  refine lv_iconst (v := 1) hx hb dL_law_157 (by decide) ?_
  refine lv_iadd hx hb dL_law_158 ?_
  refine va_sld hx hb hX hbl hbA hS hv0 dL_law_159 ?_
  have hPc := hP.sub (ws' := (w_md gm cA um)) [41, 42, 43, 44, 45, 46, 47, 48, 49, 50, 51, 52, 53, 54, 55, 56] rfl
  have hDc := hD.sub (ws' := (w_md gm cA um)) [41, 42, 43, 44, 45, 46, 47, 48, 49, 50, 51, 52, 53, 54, 55, 56] (by decide) rfl
  have hFc := va_free (wc := (w_md gm cA um)) hD hS hA [41, 42, 43, 44, 45, 46, 47, 48, 49, 50, 51, 52, 53, 54, 55, 56] rfl
  refine va_calli (va_runV (As := [.int (xs (x4 + 1).toNatClampNeg)]) (rest := []) ⟨hx, hb, hml, hown, hts⟩ (c_X4_told l dC dI cA gm _ um (xs (x4 + 1).toNatClampNeg) _ hw) (gcV 1 hts m606 m603 m604 m605 m24 rfl rfl (by decide +kernel) ⟨Nat.le_of_ble_eq_true rfl, Nat.le_of_ble_eq_true rfl⟩) ⟨xbl2, va_recv hK hPc (ci := 3) (q0 := 0) rfl rfl, fun U hU hW => ⟨rfl, by rw [hU], by rw [hU]; exact hPc, va_K.moved hW.alike hK, hDc.weaken (fun _ _ _ _ => trivial)⟩⟩ rfl rfl hl.1 rfl (lv_room (Nat.le_of_ble_eq_true rfl)) dL_law_160 ⟨show (cells + 1) + 0 ≤ 601024 by omega, show (slots + 6) + 0 ≤ 7293000 by omega⟩) hS (fun q _ h => hFc q h) hFc (fun b6 u t H1 locs ht hvm hw hB hz1 hk1 hS => ?_)
  obtain ⟨um4, e_u⟩ : ∃ z, z = u := ⟨_, rfl⟩
  subst e_u
  obtain ⟨hP1, hK1, hD1⟩ := hB
  rw [ht] at hP1
  have hJ := va_join (wr := wG ga gl go cA n ua1 uL2 uo3) (w1 := w_md gm cA um4) hP hD [41, 42, 43, 44, 45, 46, 47, 48, 49, 50, 51, 52, 53, 54, 55, 56] [0, 1, 2, 3, 4, 5, 6, 7, 8, 9, 10, 11, 12, 13, 14, 15, 16, 17, 18, 19, 20, 21, 22, 23, 24, 25, 26, 27, 28, 29, 30, 31, 32, 33, 34, 35, 36, 37, 38, 39, 40] rfl rfl (by decide) (by decide) hk1 hFc hP1 hD1
  have hP : va_P (dC, dI) vwCl (wLaw ga gl go gm cA n ua1 uL2 uo3 um4) H1 := hJ.1.sub [0, 1, 2, 3, 4, 5, 6, 7, 8, 9, 10, 11, 12, 13, 14, 15, 16, 17, 18, 19, 20, 21, 22, 23, 24, 25, 26, 27, 28, 29, 30, 31, 32, 33, 34, 35, 36, 37, 38, 39, 40, 41, 42, 43, 44, 45, 46, 47, 48, 49, 50, 51, 52, 53, 54, 55, 56] rfl
  have hD : va_D A (wLaw ga gl go gm cA n ua1 uL2 uo3 um4) := hJ.2.sub [0, 1, 2, 3, 4, 5, 6, 7, 8, 9, 10, 11, 12, 13, 14, 15, 16, 17, 18, 19, 20, 21, 22, 23, 24, 25, 26, 27, 28, 29, 30, 31, 32, 33, 34, 35, 36, 37, 38, 39, 40, 41, 42, 43, 44, 45, 46, 47, 48, 49, 50, 51, 52, 53, 54, 55, 56] (by decide) rfl
  clear hP1 hD1 hK1 hk1 hz1 hFc hDc hPc ht hJ
  generalize H1 = H at hP hS ⊢
  refine lv_istore (lv' := [(6, .int b6), (5, .int k5), (0, .ref b), (1, .ref (ga 0)), (2, .ref (gm 0)), (3, .ref go), (4, .int x4)]) hx hb dL_law_163 hl (by decide) rfl (fun ls hl => ?_)
  refine lv_aload_n hx hb dL_law_165 rfl (lv_at hl 4 rfl) ?_
  have hPc := hP.sub (ws' := (w_md gm cA um4)) [41, 42, 43, 44, 45, 46, 47, 48, 49, 50, 51, 52, 53, 54, 55, 56] rfl
  refine vp_callSi (va_Run.run (va_runV (As := []) (rest := []) ⟨hx, hb, hml, hown, hts⟩ (c_X4_thrown l dC dI cA gm um4 _ hw) (gcV 0 hts m602 m599 m600 m601 m24 rfl rfl (by decide +kernel) ⟨Nat.le_of_ble_eq_true rfl, Nat.le_of_ble_eq_true rfl⟩) ⟨xbl1, va_recv hK hPc (ci := 3) (q0 := 0) rfl rfl, fun U hU hW => ⟨rfl, by rw [hU]; exact hPc, va_K.moved hW.alike hK⟩⟩ rfl rfl hl.1 rfl (lv_room (Nat.le_of_ble_eq_true rfl)) dL_law_166 ⟨show (cells + 1 + 0) + 0 ≤ 601024 by omega, show (slots + 6 + 0) + 0 ≤ 7293000 by omega⟩)) (fun tt hw => ?_)
  clear hPc
  refine lv_iload hx hb dL_law_169 (lv_at hl 1 rfl) ?_
  refine lv_icmp_eq (tgt := 176) hx hb dL_law_171 (by decide) (fun c1 => ?_) (fun c1 => absurd (And.left hw) c1)
  replace hw := And.right hw
  refine lv_iload hx hb dL_law_176 (lv_at hl 1 rfl) ?_
  have hq := And.left hw
  replace hw := And.right hw
  have hfin : W p l e room_1 s m #[Value.ref b] below meth c H locs (cells + 1 + 0) (slots + 6 + 0) (lw_Z below #[Value.ref b] s) (F0 m 193 ls []) := by
    refine lv_goto (tgt := 1231) hx hb dL_law_193 (by decide) ?_
    exact hnext _ _ _ _ hw _ _ (by omega) (by omega) _ _ _ hP hD hS (lv_sub hl [2, 3, 4, 5, 6] rfl)
  refine lv_if_ne (tgt := 193) hx hb dL_law_178 (by decide) (fun c2 => hfin) (fun c2 => ?_)
  refine lv_aload_n hx hb dL_law_181 rfl (lv_at hl 5 rfl) ?_
  refine lv_iconst (v := 0) hx hb dL_law_182 (by decide) ?_
  refine va_lald hx hb hK hP 40 3 rfl rfl (xin (by decide)) dL_law_183 ?_
  refine lv_iload hx hb dL_law_184 (lv_at hl 0 rfl) ?_
  refine lv_i2l hx hb dL_law_186 rfl ?_
  refine W.lcmp hx hb dL_law_187 ?_
  exact lv_if_eq (tgt := 193) hx hb dL_law_188 (by decide) (fun c3 => hfin) (fun c3 => absurd (xlcmp (hq c2)) c3)
def wp_case_bound (L : Nat) (xs : Nat → Int32) (n : Nat) (NX : (Nat → Nat → Int32) → (Nat → Nat → Nat → Int32) → (Nat → Int64) → (Nat → Nat → Int32) → Prop) (x4 : Int32) (ua : Nat → Nat → Int32) (uL : Nat → Nat → Nat → Int32) (uo : Nat → Int64) (um : Nat → Nat → Int32) : Prop :=
  (vp_in (x4 + 1) L ∧ (wp_L_bound n ua uL uo (xs (x4 + 1).toNatClampNeg) (fun k5 ua1 uL2 uo3 => wp_X4_bound um (xs (x4 + 1).toNatClampNeg) (fun um4 => wp_X4_thrown um4 (fun tt => (tt = k5 ∧ NX ua1 uL2 uo3 um4))))))
set_option maxHeartbeats 4000000 in
set_option maxRecDepth 100000 in
theorem law_bound {p : Program} {l : Launch} {e : Env} {s : State} {m : MethodId} {below : List Frame} {meth : Method} {c : Code} {dC : Nat → ClassId} {dI : Nat → Nat → Nat} {cA : Nat → ClassId} {sa : Nat → Nat} {b L : Nat} {xs : Nat → Int32} {ga : Nat → Nat} {gl : Nat → Nat → Nat} {go : Nat} {gm : Nat → Nat} {n : Nat} {A : Nat → Prop} {NX : (Nat → Nat → Int32) → (Nat → Nat → Nat → Int32) → (Nat → Int64) → (Nat → Nat → Int32) → Prop} {x4 : Int32} {cM sM : Nat} (C0 : lCx p l s m meth c dC dI cA sa b L xs A) (hnext : ∀ (ua : Nat → Nat → Int32) (uL : Nat → Nat → Nat → Int32) (uo : Nat → Int64) (um : Nat → Nat → Int32), NX ua uL uo um → ∀ (cells slots : Nat), cells ≤ cM → slots ≤ sM → ∀ (H : Heap) (locs : List Loc) (ls : Array Slot), va_P (dC, dI) vwCl (wLaw ga gl go gm cA n ua uL uo um) H → va_D A (wLaw ga gl go gm cA n ua uL uo um) → va_S A s.heap H locs → lv_has ls 7 [(0, .ref b), (1, .ref (ga 0)), (2, .ref (gm 0)), (3, .ref go), (4, .int x4)] → W p l e room_1 s m #[Value.ref b] below meth c H locs cells slots (lw_Z below #[Value.ref b] s) (F0 m 1231 ls []))
    (ua : Nat → Nat → Int32) (uL : Nat → Nat → Nat → Int32) (uo : Nat → Int64) (um : Nat → Nat → Int32) {ls : Array Slot} {H : Heap} {locs : List Loc} (cells slots : Nat) (hc9 : cells + 3 ≤ cM) (hs9 : slots + 18 ≤ sM) (hcM : cM ≤ 601024) (hsM : sM ≤ 7293000) (hw : wp_case_bound L xs n NX x4 ua uL uo um) (hP : va_P (dC, dI) vwCl (wLaw ga gl go gm cA n ua uL uo um) H) (hD : va_D A (wLaw ga gl go gm cA n ua uL uo um)) (hS : va_S A s.heap H locs) (hl : lv_has ls 7 [(0, .ref b), (1, .ref (ga 0)), (2, .ref (gm 0)), (3, .ref go), (4, .int x4)]) : W p l e room_1 s m #[Value.ref b] below meth c H locs cells slots (lw_Z below #[Value.ref b] s) (F0 m 196 ls []) := by
  obtain ⟨hx, hb, hml, hown, hts, hX, hbl, hbA, hA, hK, hE, hN1, hN2, hN3, hl0⟩ := C0
  refine lv_aload_n hx hb dL_law_196 rfl (lv_at hl 1 rfl) ?_
  refine lv_aload_n hx hb dL_law_197 rfl (lv_at hl 0 rfl) ?_
  refine lv_iload hx hb dL_law_198 (lv_at hl 4 rfl) ?_
  refine lv_iconst (v := 1) hx hb dL_law_200 (by decide) ?_
  refine lv_iadd hx hb dL_law_201 ?_
  have hv0 := And.left hw
  replace hw := And.right hw
  refine va_sld hx hb hX hbl hbA hS hv0 dL_law_202 ?_
  have hPc := hP.sub (ws' := (wG ga gl go cA n ua uL uo)) [0, 1, 2, 3, 4, 5, 6, 7, 8, 9, 10, 11, 12, 13, 14, 15, 16, 17, 18, 19, 20, 21, 22, 23, 24, 25, 26, 27, 28, 29, 30, 31, 32, 33, 34, 35, 36, 37, 38, 39, 40] rfl
  have hDc := hD.sub (ws' := (wG ga gl go cA n ua uL uo)) [0, 1, 2, 3, 4, 5, 6, 7, 8, 9, 10, 11, 12, 13, 14, 15, 16, 17, 18, 19, 20, 21, 22, 23, 24, 25, 26, 27, 28, 29, 30, 31, 32, 33, 34, 35, 36, 37, 38, 39, 40] (by decide) rfl
  have hFc := va_free (wc := (wG ga gl go cA n ua uL uo)) hD hS hA [0, 1, 2, 3, 4, 5, 6, 7, 8, 9, 10, 11, 12, 13, 14, 15, 16, 17, 18, 19, 20, 21, 22, 23, 24, 25, 26, 27, 28, 29, 30, 31, 32, 33, 34, 35, 36, 37, 38, 39, 40] rfl
  refine va_calli (vx_runSW (As := [.ref (ga 0), .int (xs (x4 + 1).toNatClampNeg)]) (rest := []) ⟨hx, hb, hml, hown, hts⟩ (c_L_bound l hl0 dC dI cA sa ga gl go n _ ua uL uo (xs (x4 + 1).toNatClampNeg) _ hw) (gcSW 2 hts (fun w h => xm h) m205 m203 m204 m20 rfl rfl (by decide +kernel) ⟨Nat.le_of_ble_eq_true rfl, Nat.le_of_ble_eq_true rfl⟩) ⟨xbl2w, fun U hU hW => ⟨rfl, by rw [hU], by rw [hU]; exact hPc, va_K.moved hW.alike hK, hDc.weaken (fun _ _ _ _ => trivial), xEmvA hE hW hS hU, va_Nc.moved hW.alike hN1, va_Nc.moved hW.alike hN2, va_Nc.moved hW.alike hN3⟩⟩ rfl rfl hl.1 rfl (lv_room (Nat.le_of_ble_eq_true rfl)) dL_law_203 ⟨show (cells) + 1 ≤ 601024 by omega, show (slots) + 6 ≤ 7293000 by omega⟩) hS (fun q _ h => hFc q h) hFc (fun k5 u t H1 locs ht hvm hw hB hz1 hk1 hS => ?_)
  obtain ⟨ua1, uL2, uo3⟩ := u
  obtain ⟨hP1, hK1, hD1⟩ := hB
  rw [ht] at hP1
  dsimp only at hw
  have hJ := va_join (wr := w_md gm cA um) (w1 := wG ga gl go cA n ua1 uL2 uo3) hP hD [0, 1, 2, 3, 4, 5, 6, 7, 8, 9, 10, 11, 12, 13, 14, 15, 16, 17, 18, 19, 20, 21, 22, 23, 24, 25, 26, 27, 28, 29, 30, 31, 32, 33, 34, 35, 36, 37, 38, 39, 40] [41, 42, 43, 44, 45, 46, 47, 48, 49, 50, 51, 52, 53, 54, 55, 56] rfl rfl (by decide) (by decide) hk1 hFc hP1 hD1
  have hP : va_P (dC, dI) vwCl (wLaw ga gl go gm cA n ua1 uL2 uo3 um) H1 := hJ.1.sub [16, 17, 18, 19, 20, 21, 22, 23, 24, 25, 26, 27, 28, 29, 30, 31, 32, 33, 34, 35, 36, 37, 38, 39, 40, 41, 42, 43, 44, 45, 46, 47, 48, 49, 50, 51, 52, 53, 54, 55, 56, 0, 1, 2, 3, 4, 5, 6, 7, 8, 9, 10, 11, 12, 13, 14, 15] rfl
  have hD : va_D A (wLaw ga gl go gm cA n ua1 uL2 uo3 um) := hJ.2.sub [16, 17, 18, 19, 20, 21, 22, 23, 24, 25, 26, 27, 28, 29, 30, 31, 32, 33, 34, 35, 36, 37, 38, 39, 40, 41, 42, 43, 44, 45, 46, 47, 48, 49, 50, 51, 52, 53, 54, 55, 56, 0, 1, 2, 3, 4, 5, 6, 7, 8, 9, 10, 11, 12, 13, 14, 15] (by decide) rfl
  clear hP1 hD1 hK1 hk1 hz1 hFc hDc hPc ht hJ
  generalize H1 = H at hP hS ⊢
  refine lv_istore (lv' := [(5, .int k5), (0, .ref b), (1, .ref (ga 0)), (2, .ref (gm 0)), (3, .ref go), (4, .int x4)]) hx hb dL_law_206 hl (by decide) rfl (fun ls hl => ?_)
  refine lv_aload_n hx hb dL_law_208 rfl (lv_at hl 3 rfl) ?_
  refine lv_aload_n hx hb dL_law_209 rfl (lv_at hl 1 rfl) ?_
  refine lv_iload hx hb dL_law_210 (lv_at hl 5 rfl) ?_
  refine lv_iconst (v := 1) hx hb dL_law_212 (by decide) ?_
  refine lv_iadd hx hb dL_law_213 ?_
  refine va_sld hx hb hX hbl hbA hS hv0 dL_law_214 ?_
  have hPc := hP.sub (ws' := (w_md gm cA um)) [41, 42, 43, 44, 45, 46, 47, 48, 49, 50, 51, 52, 53, 54, 55, 56] rfl
  have hDc := hD.sub (ws' := (w_md gm cA um)) [41, 42, 43, 44, 45, 46, 47, 48, 49, 50, 51, 52, 53, 54, 55, 56] (by decide) rfl
  have hFc := va_free (wc := (w_md gm cA um)) hD hS hA [41, 42, 43, 44, 45, 46, 47, 48, 49, 50, 51, 52, 53, 54, 55, 56] rfl
  refine va_callv (va_runV (As := [.int (xs (x4 + 1).toNatClampNeg)]) (rest := []) ⟨hx, hb, hml, hown, hts⟩ (c_X4_bound l dC dI cA gm _ um (xs (x4 + 1).toNatClampNeg) _ hw) (gcV 1 hts m610 m607 m608 m609 m24 rfl rfl (by decide +kernel) ⟨Nat.le_of_ble_eq_true rfl, Nat.le_of_ble_eq_true rfl⟩) ⟨xbl2, va_recv hK hPc (ci := 3) (q0 := 0) rfl rfl, fun U hU hW => ⟨rfl, by rw [hU], by rw [hU]; exact hPc, va_K.moved hW.alike hK, hDc.weaken (fun _ _ _ _ => trivial)⟩⟩ rfl rfl hl.1 rfl (lv_room (Nat.le_of_ble_eq_true rfl)) dL_law_215 ⟨show (cells + 1) + 0 ≤ 601024 by omega, show (slots + 6) + 0 ≤ 7293000 by omega⟩) hS (fun q _ h => hFc q h) hFc (fun u t H1 locs ht hvm hw hB hz1 hk1 hS => ?_)
  obtain ⟨um4, e_u⟩ : ∃ z, z = u := ⟨_, rfl⟩
  subst e_u
  obtain ⟨hP1, hK1, hD1⟩ := hB
  rw [ht] at hP1
  have hJ := va_join (wr := wG ga gl go cA n ua1 uL2 uo3) (w1 := w_md gm cA um4) hP hD [41, 42, 43, 44, 45, 46, 47, 48, 49, 50, 51, 52, 53, 54, 55, 56] [0, 1, 2, 3, 4, 5, 6, 7, 8, 9, 10, 11, 12, 13, 14, 15, 16, 17, 18, 19, 20, 21, 22, 23, 24, 25, 26, 27, 28, 29, 30, 31, 32, 33, 34, 35, 36, 37, 38, 39, 40] rfl rfl (by decide) (by decide) hk1 hFc hP1 hD1
  have hP : va_P (dC, dI) vwCl (wLaw ga gl go gm cA n ua1 uL2 uo3 um4) H1 := hJ.1.sub [0, 1, 2, 3, 4, 5, 6, 7, 8, 9, 10, 11, 12, 13, 14, 15, 16, 17, 18, 19, 20, 21, 22, 23, 24, 25, 26, 27, 28, 29, 30, 31, 32, 33, 34, 35, 36, 37, 38, 39, 40, 41, 42, 43, 44, 45, 46, 47, 48, 49, 50, 51, 52, 53, 54, 55, 56] rfl
  have hD : va_D A (wLaw ga gl go gm cA n ua1 uL2 uo3 um4) := hJ.2.sub [0, 1, 2, 3, 4, 5, 6, 7, 8, 9, 10, 11, 12, 13, 14, 15, 16, 17, 18, 19, 20, 21, 22, 23, 24, 25, 26, 27, 28, 29, 30, 31, 32, 33, 34, 35, 36, 37, 38, 39, 40, 41, 42, 43, 44, 45, 46, 47, 48, 49, 50, 51, 52, 53, 54, 55, 56] (by decide) rfl
  clear hP1 hD1 hK1 hk1 hz1 hFc hDc hPc ht hJ
  generalize H1 = H at hP hS ⊢
  refine lv_aload_n hx hb dL_law_218 rfl (lv_at hl 3 rfl) ?_
  have hPc := hP.sub (ws' := (w_md gm cA um4)) [41, 42, 43, 44, 45, 46, 47, 48, 49, 50, 51, 52, 53, 54, 55, 56] rfl
  refine vp_callSi (va_Run.run (va_runV (As := []) (rest := []) ⟨hx, hb, hml, hown, hts⟩ (c_X4_thrown l dC dI cA gm um4 _ hw) (gcV 0 hts m602 m599 m600 m601 m24 rfl rfl (by decide +kernel) ⟨Nat.le_of_ble_eq_true rfl, Nat.le_of_ble_eq_true rfl⟩) ⟨xbl1, va_recv hK hPc (ci := 3) (q0 := 0) rfl rfl, fun U hU hW => ⟨rfl, by rw [hU]; exact hPc, va_K.moved hW.alike hK⟩⟩ rfl rfl hl.1 rfl (lv_room (Nat.le_of_ble_eq_true rfl)) dL_law_219 ⟨show (cells + 1 + 0) + 0 ≤ 601024 by omega, show (slots + 6 + 0) + 0 ≤ 7293000 by omega⟩)) (fun tt hw => ?_)
  clear hPc
  refine lv_iload hx hb dL_law_222 (lv_at hl 0 rfl) ?_
  refine lv_icmp_eq (tgt := 229) hx hb dL_law_224 (by decide) (fun c1 => ?_) (fun c1 => absurd (And.left hw) c1)
  replace hw := And.right hw
  refine lv_goto (tgt := 1231) hx hb dL_law_229 (by decide) ?_
  exact hnext _ _ _ _ hw _ _ (by omega) (by omega) _ _ _ hP hD hS (lv_sub hl [1, 2, 3, 4, 5] rfl)
def wp_case_group (L : Nat) (xs : Nat → Int32) (n : Nat) (NX : (Nat → Nat → Int32) → (Nat → Nat → Nat → Int32) → (Nat → Int64) → (Nat → Nat → Int32) → Prop) (x4 : Int32) (ua : Nat → Nat → Int32) (uL : Nat → Nat → Nat → Int32) (uo : Nat → Int64) (um : Nat → Nat → Int32) : Prop :=
  (vp_in (x4 + 1) L ∧ (vp_in (x4 + 2) L ∧ (∃ j, j < 5 ∧ wp_L_group n j ua uL uo (bI (xs (x4 + 1).toNatClampNeg)) (bI (xs (x4 + 2).toNatClampNeg)) (fun k5 ua1 uL2 uo3 => wp_X4_group um (bI (xs (x4 + 1).toNatClampNeg)) (bI (xs (x4 + 2).toNatClampNeg)) (fun b6 um4 => wp_X4_thrown um4 (fun tt => (tt = k5 ∧ ((k5 = 0 → uo3 0 = b6.toInt64) ∧ NX ua1 uL2 uo3 um4))))))))
set_option maxHeartbeats 4000000 in
set_option maxRecDepth 100000 in
theorem law_group {p : Program} {l : Launch} {e : Env} {s : State} {m : MethodId} {below : List Frame} {meth : Method} {c : Code} {dC : Nat → ClassId} {dI : Nat → Nat → Nat} {cA : Nat → ClassId} {sa : Nat → Nat} {b L : Nat} {xs : Nat → Int32} {ga : Nat → Nat} {gl : Nat → Nat → Nat} {go : Nat} {gm : Nat → Nat} {n : Nat} {A : Nat → Prop} {NX : (Nat → Nat → Int32) → (Nat → Nat → Nat → Int32) → (Nat → Int64) → (Nat → Nat → Int32) → Prop} {x4 : Int32} {cM sM : Nat} (C0 : lCx p l s m meth c dC dI cA sa b L xs A) (hnext : ∀ (ua : Nat → Nat → Int32) (uL : Nat → Nat → Nat → Int32) (uo : Nat → Int64) (um : Nat → Nat → Int32), NX ua uL uo um → ∀ (cells slots : Nat), cells ≤ cM → slots ≤ sM → ∀ (H : Heap) (locs : List Loc) (ls : Array Slot), va_P (dC, dI) vwCl (wLaw ga gl go gm cA n ua uL uo um) H → va_D A (wLaw ga gl go gm cA n ua uL uo um) → va_S A s.heap H locs → lv_has ls 7 [(0, .ref b), (1, .ref (ga 0)), (2, .ref (gm 0)), (3, .ref go), (4, .int x4)] → W p l e room_1 s m #[Value.ref b] below meth c H locs cells slots (lw_Z below #[Value.ref b] s) (F0 m 1231 ls []))
    (ua : Nat → Nat → Int32) (uL : Nat → Nat → Nat → Int32) (uo : Nat → Int64) (um : Nat → Nat → Int32) {ls : Array Slot} {H : Heap} {locs : List Loc} (cells slots : Nat) (hc9 : cells + 3 ≤ cM) (hs9 : slots + 18 ≤ sM) (hcM : cM ≤ 601024) (hsM : sM ≤ 7293000) (hw : wp_case_group L xs n NX x4 ua uL uo um) (hP : va_P (dC, dI) vwCl (wLaw ga gl go gm cA n ua uL uo um) H) (hD : va_D A (wLaw ga gl go gm cA n ua uL uo um)) (hS : va_S A s.heap H locs) (hl : lv_has ls 7 [(0, .ref b), (1, .ref (ga 0)), (2, .ref (gm 0)), (3, .ref go), (4, .int x4)]) : W p l e room_1 s m #[Value.ref b] below meth c H locs cells slots (lw_Z below #[Value.ref b] s) (F0 m 232 ls []) := by
  obtain ⟨hx, hb, hml, hown, hts, hX, hbl, hbA, hA, hK, hE, hN1, hN2, hN3, hl0⟩ := C0
  refine lv_aload_n hx hb dL_law_232 rfl (lv_at hl 1 rfl) ?_
  refine lv_aload_n hx hb dL_law_233 rfl (lv_at hl 0 rfl) ?_
  refine lv_iload hx hb dL_law_234 (lv_at hl 4 rfl) ?_
  refine lv_iconst (v := 1) hx hb dL_law_236 (by decide) ?_
  refine lv_iadd hx hb dL_law_237 ?_
  have hv0 := And.left hw
  replace hw := And.right hw
  refine va_sld hx hb hX hbl hbA hS hv0 dL_law_238 ?_
  refine xbool hx hb dL_law_239 dL_law_242 dL_law_243 dL_law_246 ?_
  refine lv_aload_n hx hb dL_law_247 rfl (lv_at hl 0 rfl) ?_
  refine lv_iload hx hb dL_law_248 (lv_at hl 4 rfl) ?_
  refine lv_iconst (v := 2) hx hb dL_law_250 (by decide) ?_
  refine lv_iadd hx hb dL_law_251 ?_
  have hv1 := And.left hw
  replace hw := And.right hw
  refine va_sld hx hb hX hbl hbA hS hv1 dL_law_252 ?_
  refine xbool hx hb dL_law_253 dL_law_256 dL_law_257 dL_law_260 ?_
  refine lv_aload_n hx hb dL_law_261 rfl (lv_at hl 3 rfl) ?_
  obtain ⟨j, hk, hw⟩ := hw
  have hPc := hP.sub (ws' := (wG ga gl go cA n ua uL uo)) [0, 1, 2, 3, 4, 5, 6, 7, 8, 9, 10, 11, 12, 13, 14, 15, 16, 17, 18, 19, 20, 21, 22, 23, 24, 25, 26, 27, 28, 29, 30, 31, 32, 33, 34, 35, 36, 37, 38, 39, 40] rfl
  have hDc := hD.sub (ws' := (wG ga gl go cA n ua uL uo)) [0, 1, 2, 3, 4, 5, 6, 7, 8, 9, 10, 11, 12, 13, 14, 15, 16, 17, 18, 19, 20, 21, 22, 23, 24, 25, 26, 27, 28, 29, 30, 31, 32, 33, 34, 35, 36, 37, 38, 39, 40] (by decide) rfl
  have hFc := va_free (wc := (wG ga gl go cA n ua uL uo)) hD hS hA [0, 1, 2, 3, 4, 5, 6, 7, 8, 9, 10, 11, 12, 13, 14, 15, 16, 17, 18, 19, 20, 21, 22, 23, 24, 25, 26, 27, 28, 29, 30, 31, 32, 33, 34, 35, 36, 37, 38, 39, 40] rfl
  refine va_calli (vx_runSW (As := [.ref (ga 0), .int (bI (xs (x4 + 1).toNatClampNeg)), .int (bI (xs (x4 + 2).toNatClampNeg)), .ref go]) (rest := []) ⟨hx, hb, hml, hown, hts⟩ (c_L_group l hl0 dC dI cA sa ga gl go n j hk _ ua uL uo (bI (xs (x4 + 1).toNatClampNeg)) (bI (xs (x4 + 2).toNatClampNeg)) _ hw) (gcSW 4 hts (fun w h => xm h) m213 m211 m212 m20 rfl rfl (by decide +kernel) ⟨Nat.le_of_ble_eq_true rfl, Nat.le_of_ble_eq_true rfl⟩) ⟨xbl2w, fun U hU hW => ⟨rfl, by rw [hU], by rw [hU]; exact hPc, va_K.moved hW.alike hK, hDc.weaken (fun _ _ _ _ => trivial), xEmvA hE hW hS hU, va_Nc.moved hW.alike hN1, va_Nc.moved hW.alike hN2, va_Nc.moved hW.alike hN3⟩⟩ rfl rfl hl.1 rfl (lv_room (Nat.le_of_ble_eq_true rfl)) dL_law_262 ⟨show (cells) + 1 ≤ 601024 by omega, show (slots) + 6 ≤ 7293000 by omega⟩) hS (fun q _ h => hFc q h) hFc (fun k5 u t H1 locs ht hvm hw hB hz1 hk1 hS => ?_)
  obtain ⟨ua1, uL2, uo3⟩ := u
  obtain ⟨hP1, hK1, hD1⟩ := hB
  rw [ht] at hP1
  dsimp only at hw
  have hJ := va_join (wr := w_md gm cA um) (w1 := wG ga gl go cA n ua1 uL2 uo3) hP hD [0, 1, 2, 3, 4, 5, 6, 7, 8, 9, 10, 11, 12, 13, 14, 15, 16, 17, 18, 19, 20, 21, 22, 23, 24, 25, 26, 27, 28, 29, 30, 31, 32, 33, 34, 35, 36, 37, 38, 39, 40] [41, 42, 43, 44, 45, 46, 47, 48, 49, 50, 51, 52, 53, 54, 55, 56] rfl rfl (by decide) (by decide) hk1 hFc hP1 hD1
  have hP : va_P (dC, dI) vwCl (wLaw ga gl go gm cA n ua1 uL2 uo3 um) H1 := hJ.1.sub [16, 17, 18, 19, 20, 21, 22, 23, 24, 25, 26, 27, 28, 29, 30, 31, 32, 33, 34, 35, 36, 37, 38, 39, 40, 41, 42, 43, 44, 45, 46, 47, 48, 49, 50, 51, 52, 53, 54, 55, 56, 0, 1, 2, 3, 4, 5, 6, 7, 8, 9, 10, 11, 12, 13, 14, 15] rfl
  have hD : va_D A (wLaw ga gl go gm cA n ua1 uL2 uo3 um) := hJ.2.sub [16, 17, 18, 19, 20, 21, 22, 23, 24, 25, 26, 27, 28, 29, 30, 31, 32, 33, 34, 35, 36, 37, 38, 39, 40, 41, 42, 43, 44, 45, 46, 47, 48, 49, 50, 51, 52, 53, 54, 55, 56, 0, 1, 2, 3, 4, 5, 6, 7, 8, 9, 10, 11, 12, 13, 14, 15] (by decide) rfl
  clear hP1 hD1 hK1 hk1 hz1 hFc hDc hPc ht hJ
  generalize H1 = H at hP hS ⊢
  refine lv_istore (lv' := [(5, .int k5), (0, .ref b), (1, .ref (ga 0)), (2, .ref (gm 0)), (3, .ref go), (4, .int x4)]) hx hb dL_law_265 hl (by decide) rfl (fun ls hl => ?_)
  refine lv_aload_n hx hb dL_law_267 rfl (lv_at hl 3 rfl) ?_
  refine lv_aload_n hx hb dL_law_268 rfl (lv_at hl 1 rfl) ?_
  refine lv_iload hx hb dL_law_269 (lv_at hl 5 rfl) ?_
  refine lv_iconst (v := 1) hx hb dL_law_271 (by decide) ?_
  refine lv_iadd hx hb dL_law_272 ?_
  refine va_sld hx hb hX hbl hbA hS hv0 dL_law_273 ?_
  refine xbool hx hb dL_law_274 dL_law_277 dL_law_278 dL_law_281 ?_
  refine lv_aload_n hx hb dL_law_282 rfl (lv_at hl 1 rfl) ?_
  refine lv_iload hx hb dL_law_283 (lv_at hl 5 rfl) ?_
  refine lv_iconst (v := 2) hx hb dL_law_285 (by decide) ?_
  refine lv_iadd hx hb dL_law_286 ?_
  refine va_sld hx hb hX hbl hbA hS hv1 dL_law_287 ?_
  refine xbool hx hb dL_law_288 dL_law_291 dL_law_292 dL_law_295 ?_
  have hPc := hP.sub (ws' := (w_md gm cA um)) [41, 42, 43, 44, 45, 46, 47, 48, 49, 50, 51, 52, 53, 54, 55, 56] rfl
  have hDc := hD.sub (ws' := (w_md gm cA um)) [41, 42, 43, 44, 45, 46, 47, 48, 49, 50, 51, 52, 53, 54, 55, 56] (by decide) rfl
  have hFc := va_free (wc := (w_md gm cA um)) hD hS hA [41, 42, 43, 44, 45, 46, 47, 48, 49, 50, 51, 52, 53, 54, 55, 56] rfl
  refine va_calli (va_runV (As := [.int (bI (xs (x4 + 1).toNatClampNeg)), .int (bI (xs (x4 + 2).toNatClampNeg))]) (rest := []) ⟨hx, hb, hml, hown, hts⟩ (c_X4_group l dC dI cA gm _ um (bI (xs (x4 + 1).toNatClampNeg)) (bI (xs (x4 + 2).toNatClampNeg)) _ hw) (gcV 2 hts m614 m611 m612 m613 m24 rfl rfl (by decide +kernel) ⟨Nat.le_of_ble_eq_true rfl, Nat.le_of_ble_eq_true rfl⟩) ⟨xbl2, va_recv hK hPc (ci := 3) (q0 := 0) rfl rfl, fun U hU hW => ⟨rfl, by rw [hU], by rw [hU]; exact hPc, va_K.moved hW.alike hK, hDc.weaken (fun _ _ _ _ => trivial)⟩⟩ rfl rfl hl.1 rfl (lv_room (Nat.le_of_ble_eq_true rfl)) dL_law_296 ⟨show (cells + 1) + 0 ≤ 601024 by omega, show (slots + 6) + 0 ≤ 7293000 by omega⟩) hS (fun q _ h => hFc q h) hFc (fun b6 u t H1 locs ht hvm hw hB hz1 hk1 hS => ?_)
  obtain ⟨um4, e_u⟩ : ∃ z, z = u := ⟨_, rfl⟩
  subst e_u
  obtain ⟨hP1, hK1, hD1⟩ := hB
  rw [ht] at hP1
  have hJ := va_join (wr := wG ga gl go cA n ua1 uL2 uo3) (w1 := w_md gm cA um4) hP hD [41, 42, 43, 44, 45, 46, 47, 48, 49, 50, 51, 52, 53, 54, 55, 56] [0, 1, 2, 3, 4, 5, 6, 7, 8, 9, 10, 11, 12, 13, 14, 15, 16, 17, 18, 19, 20, 21, 22, 23, 24, 25, 26, 27, 28, 29, 30, 31, 32, 33, 34, 35, 36, 37, 38, 39, 40] rfl rfl (by decide) (by decide) hk1 hFc hP1 hD1
  have hP : va_P (dC, dI) vwCl (wLaw ga gl go gm cA n ua1 uL2 uo3 um4) H1 := hJ.1.sub [0, 1, 2, 3, 4, 5, 6, 7, 8, 9, 10, 11, 12, 13, 14, 15, 16, 17, 18, 19, 20, 21, 22, 23, 24, 25, 26, 27, 28, 29, 30, 31, 32, 33, 34, 35, 36, 37, 38, 39, 40, 41, 42, 43, 44, 45, 46, 47, 48, 49, 50, 51, 52, 53, 54, 55, 56] rfl
  have hD : va_D A (wLaw ga gl go gm cA n ua1 uL2 uo3 um4) := hJ.2.sub [0, 1, 2, 3, 4, 5, 6, 7, 8, 9, 10, 11, 12, 13, 14, 15, 16, 17, 18, 19, 20, 21, 22, 23, 24, 25, 26, 27, 28, 29, 30, 31, 32, 33, 34, 35, 36, 37, 38, 39, 40, 41, 42, 43, 44, 45, 46, 47, 48, 49, 50, 51, 52, 53, 54, 55, 56] (by decide) rfl
  clear hP1 hD1 hK1 hk1 hz1 hFc hDc hPc ht hJ
  generalize H1 = H at hP hS ⊢
  refine lv_istore (lv' := [(6, .int b6), (5, .int k5), (0, .ref b), (1, .ref (ga 0)), (2, .ref (gm 0)), (3, .ref go), (4, .int x4)]) hx hb dL_law_299 hl (by decide) rfl (fun ls hl => ?_)
  refine lv_aload_n hx hb dL_law_301 rfl (lv_at hl 4 rfl) ?_
  have hPc := hP.sub (ws' := (w_md gm cA um4)) [41, 42, 43, 44, 45, 46, 47, 48, 49, 50, 51, 52, 53, 54, 55, 56] rfl
  refine vp_callSi (va_Run.run (va_runV (As := []) (rest := []) ⟨hx, hb, hml, hown, hts⟩ (c_X4_thrown l dC dI cA gm um4 _ hw) (gcV 0 hts m602 m599 m600 m601 m24 rfl rfl (by decide +kernel) ⟨Nat.le_of_ble_eq_true rfl, Nat.le_of_ble_eq_true rfl⟩) ⟨xbl1, va_recv hK hPc (ci := 3) (q0 := 0) rfl rfl, fun U hU hW => ⟨rfl, by rw [hU]; exact hPc, va_K.moved hW.alike hK⟩⟩ rfl rfl hl.1 rfl (lv_room (Nat.le_of_ble_eq_true rfl)) dL_law_302 ⟨show (cells + 1 + 0) + 0 ≤ 601024 by omega, show (slots + 6 + 0) + 0 ≤ 7293000 by omega⟩)) (fun tt hw => ?_)
  clear hPc
  refine lv_iload hx hb dL_law_305 (lv_at hl 1 rfl) ?_
  refine lv_icmp_eq (tgt := 312) hx hb dL_law_307 (by decide) (fun c1 => ?_) (fun c1 => absurd (And.left hw) c1)
  replace hw := And.right hw
  refine lv_iload hx hb dL_law_312 (lv_at hl 1 rfl) ?_
  have hq := And.left hw
  replace hw := And.right hw
  have hfin : W p l e room_1 s m #[Value.ref b] below meth c H locs (cells + 1 + 0) (slots + 6 + 0) (lw_Z below #[Value.ref b] s) (F0 m 329 ls []) := by
    refine lv_goto (tgt := 1231) hx hb dL_law_329 (by decide) ?_
    exact hnext _ _ _ _ hw _ _ (by omega) (by omega) _ _ _ hP hD hS (lv_sub hl [2, 3, 4, 5, 6] rfl)
  refine lv_if_ne (tgt := 329) hx hb dL_law_314 (by decide) (fun c2 => hfin) (fun c2 => ?_)
  refine lv_aload_n hx hb dL_law_317 rfl (lv_at hl 5 rfl) ?_
  refine lv_iconst (v := 0) hx hb dL_law_318 (by decide) ?_
  refine va_lald hx hb hK hP 40 3 rfl rfl (xin (by decide)) dL_law_319 ?_
  refine lv_iload hx hb dL_law_320 (lv_at hl 0 rfl) ?_
  refine lv_i2l hx hb dL_law_322 rfl ?_
  refine W.lcmp hx hb dL_law_323 ?_
  exact lv_if_eq (tgt := 329) hx hb dL_law_324 (by decide) (fun c3 => hfin) (fun c3 => absurd (xlcmp (hq c2)) c3)
def wp_case_end (L : Nat) (xs : Nat → Int32) (n : Nat) (NX : (Nat → Nat → Int32) → (Nat → Nat → Nat → Int32) → (Nat → Int64) → (Nat → Nat → Int32) → Prop) (x4 : Int32) (ua : Nat → Nat → Int32) (uL : Nat → Nat → Nat → Int32) (uo : Nat → Int64) (um : Nat → Nat → Int32) : Prop :=
  (vp_in (x4 + 1) L ∧ (vp_in (x4 + 2) L ∧ (∃ j, j < 5 ∧ wp_L_end n j ua uL uo (xs (x4 + 1).toNatClampNeg) (xs (x4 + 2).toNatClampNeg) (fun k5 ua1 uL2 uo3 => wp_X4_end um (xs (x4 + 1).toNatClampNeg) (xs (x4 + 2).toNatClampNeg) (fun b6 um4 => wp_X4_thrown um4 (fun tt => (tt = k5 ∧ ((k5 = 0 → uo3 0 = b6.toInt64) ∧ NX ua1 uL2 uo3 um4))))))))
set_option maxHeartbeats 4000000 in
set_option maxRecDepth 100000 in
theorem law_end {p : Program} {l : Launch} {e : Env} {s : State} {m : MethodId} {below : List Frame} {meth : Method} {c : Code} {dC : Nat → ClassId} {dI : Nat → Nat → Nat} {cA : Nat → ClassId} {sa : Nat → Nat} {b L : Nat} {xs : Nat → Int32} {ga : Nat → Nat} {gl : Nat → Nat → Nat} {go : Nat} {gm : Nat → Nat} {n : Nat} {A : Nat → Prop} {NX : (Nat → Nat → Int32) → (Nat → Nat → Nat → Int32) → (Nat → Int64) → (Nat → Nat → Int32) → Prop} {x4 : Int32} {cM sM : Nat} (C0 : lCx p l s m meth c dC dI cA sa b L xs A) (hnext : ∀ (ua : Nat → Nat → Int32) (uL : Nat → Nat → Nat → Int32) (uo : Nat → Int64) (um : Nat → Nat → Int32), NX ua uL uo um → ∀ (cells slots : Nat), cells ≤ cM → slots ≤ sM → ∀ (H : Heap) (locs : List Loc) (ls : Array Slot), va_P (dC, dI) vwCl (wLaw ga gl go gm cA n ua uL uo um) H → va_D A (wLaw ga gl go gm cA n ua uL uo um) → va_S A s.heap H locs → lv_has ls 7 [(0, .ref b), (1, .ref (ga 0)), (2, .ref (gm 0)), (3, .ref go), (4, .int x4)] → W p l e room_1 s m #[Value.ref b] below meth c H locs cells slots (lw_Z below #[Value.ref b] s) (F0 m 1231 ls []))
    (ua : Nat → Nat → Int32) (uL : Nat → Nat → Nat → Int32) (uo : Nat → Int64) (um : Nat → Nat → Int32) {ls : Array Slot} {H : Heap} {locs : List Loc} (cells slots : Nat) (hc9 : cells + 3 ≤ cM) (hs9 : slots + 18 ≤ sM) (hcM : cM ≤ 601024) (hsM : sM ≤ 7293000) (hw : wp_case_end L xs n NX x4 ua uL uo um) (hP : va_P (dC, dI) vwCl (wLaw ga gl go gm cA n ua uL uo um) H) (hD : va_D A (wLaw ga gl go gm cA n ua uL uo um)) (hS : va_S A s.heap H locs) (hl : lv_has ls 7 [(0, .ref b), (1, .ref (ga 0)), (2, .ref (gm 0)), (3, .ref go), (4, .int x4)]) : W p l e room_1 s m #[Value.ref b] below meth c H locs cells slots (lw_Z below #[Value.ref b] s) (F0 m 332 ls []) := by
  obtain ⟨hx, hb, hml, hown, hts, hX, hbl, hbA, hA, hK, hE, hN1, hN2, hN3, hl0⟩ := C0
  refine lv_aload_n hx hb dL_law_332 rfl (lv_at hl 1 rfl) ?_
  refine lv_aload_n hx hb dL_law_333 rfl (lv_at hl 0 rfl) ?_
  refine lv_iload hx hb dL_law_334 (lv_at hl 4 rfl) ?_
  refine lv_iconst (v := 1) hx hb dL_law_336 (by decide) ?_
  refine lv_iadd hx hb dL_law_337 ?_
  have hv0 := And.left hw
  replace hw := And.right hw
  refine va_sld hx hb hX hbl hbA hS hv0 dL_law_338 ?_
  refine lv_aload_n hx hb dL_law_339 rfl (lv_at hl 0 rfl) ?_
  refine lv_iload hx hb dL_law_340 (lv_at hl 4 rfl) ?_
  refine lv_iconst (v := 2) hx hb dL_law_342 (by decide) ?_
  refine lv_iadd hx hb dL_law_343 ?_
  have hv1 := And.left hw
  replace hw := And.right hw
  refine va_sld hx hb hX hbl hbA hS hv1 dL_law_344 ?_
  refine lv_aload_n hx hb dL_law_345 rfl (lv_at hl 3 rfl) ?_
  obtain ⟨j, hk, hw⟩ := hw
  have hPc := hP.sub (ws' := (wG ga gl go cA n ua uL uo)) [0, 1, 2, 3, 4, 5, 6, 7, 8, 9, 10, 11, 12, 13, 14, 15, 16, 17, 18, 19, 20, 21, 22, 23, 24, 25, 26, 27, 28, 29, 30, 31, 32, 33, 34, 35, 36, 37, 38, 39, 40] rfl
  have hDc := hD.sub (ws' := (wG ga gl go cA n ua uL uo)) [0, 1, 2, 3, 4, 5, 6, 7, 8, 9, 10, 11, 12, 13, 14, 15, 16, 17, 18, 19, 20, 21, 22, 23, 24, 25, 26, 27, 28, 29, 30, 31, 32, 33, 34, 35, 36, 37, 38, 39, 40] (by decide) rfl
  have hFc := va_free (wc := (wG ga gl go cA n ua uL uo)) hD hS hA [0, 1, 2, 3, 4, 5, 6, 7, 8, 9, 10, 11, 12, 13, 14, 15, 16, 17, 18, 19, 20, 21, 22, 23, 24, 25, 26, 27, 28, 29, 30, 31, 32, 33, 34, 35, 36, 37, 38, 39, 40] rfl
  refine va_calli (vx_runSW (As := [.ref (ga 0), .int (xs (x4 + 1).toNatClampNeg), .int (xs (x4 + 2).toNatClampNeg), .ref go]) (rest := []) ⟨hx, hb, hml, hown, hts⟩ (c_L_end l hl0 dC dI cA sa ga gl go n j hk _ ua uL uo (xs (x4 + 1).toNatClampNeg) (xs (x4 + 2).toNatClampNeg) _ hw) (gcSW 4 hts (fun w h => xm h) m263 m261 m262 m20 rfl rfl (by decide +kernel) ⟨Nat.le_of_ble_eq_true rfl, Nat.le_of_ble_eq_true rfl⟩) ⟨xbl2w, fun U hU hW => ⟨rfl, by rw [hU], by rw [hU]; exact hPc, va_K.moved hW.alike hK, hDc.weaken (fun _ _ _ _ => trivial), xEmvA hE hW hS hU, va_Nc.moved hW.alike hN1, va_Nc.moved hW.alike hN2, va_Nc.moved hW.alike hN3⟩⟩ rfl rfl hl.1 rfl (lv_room (Nat.le_of_ble_eq_true rfl)) dL_law_346 ⟨show (cells) + 3 ≤ 601024 by omega, show (slots) + 18 ≤ 7293000 by omega⟩) hS (fun q _ h => hFc q h) hFc (fun k5 u t H1 locs ht hvm hw hB hz1 hk1 hS => ?_)
  obtain ⟨ua1, uL2, uo3⟩ := u
  obtain ⟨hP1, hK1, hD1⟩ := hB
  rw [ht] at hP1
  dsimp only at hw
  have hJ := va_join (wr := w_md gm cA um) (w1 := wG ga gl go cA n ua1 uL2 uo3) hP hD [0, 1, 2, 3, 4, 5, 6, 7, 8, 9, 10, 11, 12, 13, 14, 15, 16, 17, 18, 19, 20, 21, 22, 23, 24, 25, 26, 27, 28, 29, 30, 31, 32, 33, 34, 35, 36, 37, 38, 39, 40] [41, 42, 43, 44, 45, 46, 47, 48, 49, 50, 51, 52, 53, 54, 55, 56] rfl rfl (by decide) (by decide) hk1 hFc hP1 hD1
  have hP : va_P (dC, dI) vwCl (wLaw ga gl go gm cA n ua1 uL2 uo3 um) H1 := hJ.1.sub [16, 17, 18, 19, 20, 21, 22, 23, 24, 25, 26, 27, 28, 29, 30, 31, 32, 33, 34, 35, 36, 37, 38, 39, 40, 41, 42, 43, 44, 45, 46, 47, 48, 49, 50, 51, 52, 53, 54, 55, 56, 0, 1, 2, 3, 4, 5, 6, 7, 8, 9, 10, 11, 12, 13, 14, 15] rfl
  have hD : va_D A (wLaw ga gl go gm cA n ua1 uL2 uo3 um) := hJ.2.sub [16, 17, 18, 19, 20, 21, 22, 23, 24, 25, 26, 27, 28, 29, 30, 31, 32, 33, 34, 35, 36, 37, 38, 39, 40, 41, 42, 43, 44, 45, 46, 47, 48, 49, 50, 51, 52, 53, 54, 55, 56, 0, 1, 2, 3, 4, 5, 6, 7, 8, 9, 10, 11, 12, 13, 14, 15] (by decide) rfl
  clear hP1 hD1 hK1 hk1 hz1 hFc hDc hPc ht hJ
  generalize H1 = H at hP hS ⊢
  refine lv_istore (lv' := [(5, .int k5), (0, .ref b), (1, .ref (ga 0)), (2, .ref (gm 0)), (3, .ref go), (4, .int x4)]) hx hb dL_law_349 hl (by decide) rfl (fun ls hl => ?_)
  refine lv_aload_n hx hb dL_law_351 rfl (lv_at hl 3 rfl) ?_
  refine lv_aload_n hx hb dL_law_352 rfl (lv_at hl 1 rfl) ?_
  refine lv_iload hx hb dL_law_353 (lv_at hl 5 rfl) ?_
  refine lv_iconst (v := 1) hx hb dL_law_355 (by decide) ?_
  refine lv_iadd hx hb dL_law_356 ?_
  refine va_sld hx hb hX hbl hbA hS hv0 dL_law_357 ?_
  refine lv_aload_n hx hb dL_law_358 rfl (lv_at hl 1 rfl) ?_
  refine lv_iload hx hb dL_law_359 (lv_at hl 5 rfl) ?_
  refine lv_iconst (v := 2) hx hb dL_law_361 (by decide) ?_
  refine lv_iadd hx hb dL_law_362 ?_
  refine va_sld hx hb hX hbl hbA hS hv1 dL_law_363 ?_
  have hPc := hP.sub (ws' := (w_md gm cA um)) [41, 42, 43, 44, 45, 46, 47, 48, 49, 50, 51, 52, 53, 54, 55, 56] rfl
  have hDc := hD.sub (ws' := (w_md gm cA um)) [41, 42, 43, 44, 45, 46, 47, 48, 49, 50, 51, 52, 53, 54, 55, 56] (by decide) rfl
  have hFc := va_free (wc := (w_md gm cA um)) hD hS hA [41, 42, 43, 44, 45, 46, 47, 48, 49, 50, 51, 52, 53, 54, 55, 56] rfl
  refine va_calli (va_runV (As := [.int (xs (x4 + 1).toNatClampNeg), .int (xs (x4 + 2).toNatClampNeg)]) (rest := []) ⟨hx, hb, hml, hown, hts⟩ (c_X4_end l dC dI cA gm _ um (xs (x4 + 1).toNatClampNeg) (xs (x4 + 2).toNatClampNeg) _ hw) (gcV 2 hts m625 m622 m623 m624 m24 rfl rfl (by decide +kernel) ⟨Nat.le_of_ble_eq_true rfl, Nat.le_of_ble_eq_true rfl⟩) ⟨xbl2, va_recv hK hPc (ci := 3) (q0 := 0) rfl rfl, fun U hU hW => ⟨rfl, by rw [hU], by rw [hU]; exact hPc, va_K.moved hW.alike hK, hDc.weaken (fun _ _ _ _ => trivial)⟩⟩ rfl rfl hl.1 rfl (lv_room (Nat.le_of_ble_eq_true rfl)) dL_law_364 ⟨show (cells + 3) + 0 ≤ 601024 by omega, show (slots + 18) + 0 ≤ 7293000 by omega⟩) hS (fun q _ h => hFc q h) hFc (fun b6 u t H1 locs ht hvm hw hB hz1 hk1 hS => ?_)
  obtain ⟨um4, e_u⟩ : ∃ z, z = u := ⟨_, rfl⟩
  subst e_u
  obtain ⟨hP1, hK1, hD1⟩ := hB
  rw [ht] at hP1
  have hJ := va_join (wr := wG ga gl go cA n ua1 uL2 uo3) (w1 := w_md gm cA um4) hP hD [41, 42, 43, 44, 45, 46, 47, 48, 49, 50, 51, 52, 53, 54, 55, 56] [0, 1, 2, 3, 4, 5, 6, 7, 8, 9, 10, 11, 12, 13, 14, 15, 16, 17, 18, 19, 20, 21, 22, 23, 24, 25, 26, 27, 28, 29, 30, 31, 32, 33, 34, 35, 36, 37, 38, 39, 40] rfl rfl (by decide) (by decide) hk1 hFc hP1 hD1
  have hP : va_P (dC, dI) vwCl (wLaw ga gl go gm cA n ua1 uL2 uo3 um4) H1 := hJ.1.sub [0, 1, 2, 3, 4, 5, 6, 7, 8, 9, 10, 11, 12, 13, 14, 15, 16, 17, 18, 19, 20, 21, 22, 23, 24, 25, 26, 27, 28, 29, 30, 31, 32, 33, 34, 35, 36, 37, 38, 39, 40, 41, 42, 43, 44, 45, 46, 47, 48, 49, 50, 51, 52, 53, 54, 55, 56] rfl
  have hD : va_D A (wLaw ga gl go gm cA n ua1 uL2 uo3 um4) := hJ.2.sub [0, 1, 2, 3, 4, 5, 6, 7, 8, 9, 10, 11, 12, 13, 14, 15, 16, 17, 18, 19, 20, 21, 22, 23, 24, 25, 26, 27, 28, 29, 30, 31, 32, 33, 34, 35, 36, 37, 38, 39, 40, 41, 42, 43, 44, 45, 46, 47, 48, 49, 50, 51, 52, 53, 54, 55, 56] (by decide) rfl
  clear hP1 hD1 hK1 hk1 hz1 hFc hDc hPc ht hJ
  generalize H1 = H at hP hS ⊢
  refine lv_istore (lv' := [(6, .int b6), (5, .int k5), (0, .ref b), (1, .ref (ga 0)), (2, .ref (gm 0)), (3, .ref go), (4, .int x4)]) hx hb dL_law_367 hl (by decide) rfl (fun ls hl => ?_)
  refine lv_aload_n hx hb dL_law_369 rfl (lv_at hl 4 rfl) ?_
  have hPc := hP.sub (ws' := (w_md gm cA um4)) [41, 42, 43, 44, 45, 46, 47, 48, 49, 50, 51, 52, 53, 54, 55, 56] rfl
  refine vp_callSi (va_Run.run (va_runV (As := []) (rest := []) ⟨hx, hb, hml, hown, hts⟩ (c_X4_thrown l dC dI cA gm um4 _ hw) (gcV 0 hts m602 m599 m600 m601 m24 rfl rfl (by decide +kernel) ⟨Nat.le_of_ble_eq_true rfl, Nat.le_of_ble_eq_true rfl⟩) ⟨xbl1, va_recv hK hPc (ci := 3) (q0 := 0) rfl rfl, fun U hU hW => ⟨rfl, by rw [hU]; exact hPc, va_K.moved hW.alike hK⟩⟩ rfl rfl hl.1 rfl (lv_room (Nat.le_of_ble_eq_true rfl)) dL_law_370 ⟨show (cells + 3 + 0) + 0 ≤ 601024 by omega, show (slots + 18 + 0) + 0 ≤ 7293000 by omega⟩)) (fun tt hw => ?_)
  clear hPc
  refine lv_iload hx hb dL_law_373 (lv_at hl 1 rfl) ?_
  refine lv_icmp_eq (tgt := 380) hx hb dL_law_375 (by decide) (fun c1 => ?_) (fun c1 => absurd (And.left hw) c1)
  replace hw := And.right hw
  refine lv_iload hx hb dL_law_380 (lv_at hl 1 rfl) ?_
  have hq := And.left hw
  replace hw := And.right hw
  have hfin : W p l e room_1 s m #[Value.ref b] below meth c H locs (cells + 3 + 0) (slots + 18 + 0) (lw_Z below #[Value.ref b] s) (F0 m 397 ls []) := by
    refine lv_goto (tgt := 1231) hx hb dL_law_397 (by decide) ?_
    exact hnext _ _ _ _ hw _ _ (by omega) (by omega) _ _ _ hP hD hS (lv_sub hl [2, 3, 4, 5, 6] rfl)
  refine lv_if_ne (tgt := 397) hx hb dL_law_382 (by decide) (fun c2 => hfin) (fun c2 => ?_)
  refine lv_aload_n hx hb dL_law_385 rfl (lv_at hl 5 rfl) ?_
  refine lv_iconst (v := 0) hx hb dL_law_386 (by decide) ?_
  refine va_lald hx hb hK hP 40 3 rfl rfl (xin (by decide)) dL_law_387 ?_
  refine lv_iload hx hb dL_law_388 (lv_at hl 0 rfl) ?_
  refine lv_i2l hx hb dL_law_390 rfl ?_
  refine W.lcmp hx hb dL_law_391 ?_
  exact lv_if_eq (tgt := 397) hx hb dL_law_392 (by decide) (fun c3 => hfin) (fun c3 => absurd (xlcmp (hq c2)) c3)
def wp_case_mask (L : Nat) (xs : Nat → Int32) (n : Nat) (NX : (Nat → Nat → Int32) → (Nat → Nat → Nat → Int32) → (Nat → Int64) → (Nat → Nat → Int32) → Prop) (x4 : Int32) (ua : Nat → Nat → Int32) (uL : Nat → Nat → Nat → Int32) (uo : Nat → Int64) (um : Nat → Nat → Int32) : Prop :=
  (vp_in (x4 + 1) L ∧ (vp_in (x4 + 2) L ∧ (∃ k, k < 6 ∧ wp_L_mask n k ua uL uo (xs (x4 + 1).toNatClampNeg) (bI (xs (x4 + 2).toNatClampNeg)) (fun k5 ua1 uL2 uo3 => wp_X4_mask um (xs (x4 + 1).toNatClampNeg) (bI (xs (x4 + 2).toNatClampNeg)) (fun b6 um4 => wp_X4_thrown um4 (fun tt => (tt = k5 ∧ ((k5 = 0 → uo3 0 = b6.toInt64) ∧ NX ua1 uL2 uo3 um4))))))))
set_option maxHeartbeats 4000000 in
set_option maxRecDepth 100000 in
theorem law_mask {p : Program} {l : Launch} {e : Env} {s : State} {m : MethodId} {below : List Frame} {meth : Method} {c : Code} {dC : Nat → ClassId} {dI : Nat → Nat → Nat} {cA : Nat → ClassId} {sa : Nat → Nat} {b L : Nat} {xs : Nat → Int32} {ga : Nat → Nat} {gl : Nat → Nat → Nat} {go : Nat} {gm : Nat → Nat} {n : Nat} {A : Nat → Prop} {NX : (Nat → Nat → Int32) → (Nat → Nat → Nat → Int32) → (Nat → Int64) → (Nat → Nat → Int32) → Prop} {x4 : Int32} {cM sM : Nat} (C0 : lCx p l s m meth c dC dI cA sa b L xs A) (hnext : ∀ (ua : Nat → Nat → Int32) (uL : Nat → Nat → Nat → Int32) (uo : Nat → Int64) (um : Nat → Nat → Int32), NX ua uL uo um → ∀ (cells slots : Nat), cells ≤ cM → slots ≤ sM → ∀ (H : Heap) (locs : List Loc) (ls : Array Slot), va_P (dC, dI) vwCl (wLaw ga gl go gm cA n ua uL uo um) H → va_D A (wLaw ga gl go gm cA n ua uL uo um) → va_S A s.heap H locs → lv_has ls 7 [(0, .ref b), (1, .ref (ga 0)), (2, .ref (gm 0)), (3, .ref go), (4, .int x4)] → W p l e room_1 s m #[Value.ref b] below meth c H locs cells slots (lw_Z below #[Value.ref b] s) (F0 m 1231 ls []))
    (ua : Nat → Nat → Int32) (uL : Nat → Nat → Nat → Int32) (uo : Nat → Int64) (um : Nat → Nat → Int32) {ls : Array Slot} {H : Heap} {locs : List Loc} (cells slots : Nat) (hc9 : cells + 3 ≤ cM) (hs9 : slots + 18 ≤ sM) (hcM : cM ≤ 601024) (hsM : sM ≤ 7293000) (hw : wp_case_mask L xs n NX x4 ua uL uo um) (hP : va_P (dC, dI) vwCl (wLaw ga gl go gm cA n ua uL uo um) H) (hD : va_D A (wLaw ga gl go gm cA n ua uL uo um)) (hS : va_S A s.heap H locs) (hl : lv_has ls 7 [(0, .ref b), (1, .ref (ga 0)), (2, .ref (gm 0)), (3, .ref go), (4, .int x4)]) : W p l e room_1 s m #[Value.ref b] below meth c H locs cells slots (lw_Z below #[Value.ref b] s) (F0 m 400 ls []) := by
  obtain ⟨hx, hb, hml, hown, hts, hX, hbl, hbA, hA, hK, hE, hN1, hN2, hN3, hl0⟩ := C0
  refine lv_aload_n hx hb dL_law_400 rfl (lv_at hl 1 rfl) ?_
  refine lv_aload_n hx hb dL_law_401 rfl (lv_at hl 0 rfl) ?_
  refine lv_iload hx hb dL_law_402 (lv_at hl 4 rfl) ?_
  refine lv_iconst (v := 1) hx hb dL_law_404 (by decide) ?_
  refine lv_iadd hx hb dL_law_405 ?_
  have hv0 := And.left hw
  replace hw := And.right hw
  refine va_sld hx hb hX hbl hbA hS hv0 dL_law_406 ?_
  refine lv_aload_n hx hb dL_law_407 rfl (lv_at hl 0 rfl) ?_
  refine lv_iload hx hb dL_law_408 (lv_at hl 4 rfl) ?_
  refine lv_iconst (v := 2) hx hb dL_law_410 (by decide) ?_
  refine lv_iadd hx hb dL_law_411 ?_
  have hv1 := And.left hw
  replace hw := And.right hw
  refine va_sld hx hb hX hbl hbA hS hv1 dL_law_412 ?_
  refine xbool hx hb dL_law_413 dL_law_416 dL_law_417 dL_law_420 ?_
  refine lv_aload_n hx hb dL_law_421 rfl (lv_at hl 3 rfl) ?_
  obtain ⟨k, hk, hw⟩ := hw
  have hPc := hP.sub (ws' := (wG ga gl go cA n ua uL uo)) [0, 1, 2, 3, 4, 5, 6, 7, 8, 9, 10, 11, 12, 13, 14, 15, 16, 17, 18, 19, 20, 21, 22, 23, 24, 25, 26, 27, 28, 29, 30, 31, 32, 33, 34, 35, 36, 37, 38, 39, 40] rfl
  have hDc := hD.sub (ws' := (wG ga gl go cA n ua uL uo)) [0, 1, 2, 3, 4, 5, 6, 7, 8, 9, 10, 11, 12, 13, 14, 15, 16, 17, 18, 19, 20, 21, 22, 23, 24, 25, 26, 27, 28, 29, 30, 31, 32, 33, 34, 35, 36, 37, 38, 39, 40] (by decide) rfl
  have hFc := va_free (wc := (wG ga gl go cA n ua uL uo)) hD hS hA [0, 1, 2, 3, 4, 5, 6, 7, 8, 9, 10, 11, 12, 13, 14, 15, 16, 17, 18, 19, 20, 21, 22, 23, 24, 25, 26, 27, 28, 29, 30, 31, 32, 33, 34, 35, 36, 37, 38, 39, 40] rfl
  refine va_calli (vx_runSW (As := [.ref (ga 0), .int (xs (x4 + 1).toNatClampNeg), .int (bI (xs (x4 + 2).toNatClampNeg)), .ref go]) (rest := []) ⟨hx, hb, hml, hown, hts⟩ (c_L_mask l hl0 dC dI cA sa ga gl go n k hk _ ua uL uo (xs (x4 + 1).toNatClampNeg) (bI (xs (x4 + 2).toNatClampNeg)) _ hw) (gcSW 4 hts (fun w h => xm h) m398 m396 m397 m20 rfl rfl (by decide +kernel) ⟨Nat.le_of_ble_eq_true rfl, Nat.le_of_ble_eq_true rfl⟩) ⟨xbl2w, fun U hU hW => ⟨rfl, by rw [hU], by rw [hU]; exact hPc, va_K.moved hW.alike hK, hDc.weaken (fun _ _ _ _ => trivial), xEmvA hE hW hS hU, va_Nc.moved hW.alike hN1, va_Nc.moved hW.alike hN2, va_Nc.moved hW.alike hN3⟩⟩ rfl rfl hl.1 rfl (lv_room (Nat.le_of_ble_eq_true rfl)) dL_law_422 ⟨show (cells) + 2 ≤ 601024 by omega, show (slots) + 12 ≤ 7293000 by omega⟩) hS (fun q _ h => hFc q h) hFc (fun k5 u t H1 locs ht hvm hw hB hz1 hk1 hS => ?_)
  obtain ⟨ua1, uL2, uo3⟩ := u
  obtain ⟨hP1, hK1, hD1⟩ := hB
  rw [ht] at hP1
  dsimp only at hw
  have hJ := va_join (wr := w_md gm cA um) (w1 := wG ga gl go cA n ua1 uL2 uo3) hP hD [0, 1, 2, 3, 4, 5, 6, 7, 8, 9, 10, 11, 12, 13, 14, 15, 16, 17, 18, 19, 20, 21, 22, 23, 24, 25, 26, 27, 28, 29, 30, 31, 32, 33, 34, 35, 36, 37, 38, 39, 40] [41, 42, 43, 44, 45, 46, 47, 48, 49, 50, 51, 52, 53, 54, 55, 56] rfl rfl (by decide) (by decide) hk1 hFc hP1 hD1
  have hP : va_P (dC, dI) vwCl (wLaw ga gl go gm cA n ua1 uL2 uo3 um) H1 := hJ.1.sub [16, 17, 18, 19, 20, 21, 22, 23, 24, 25, 26, 27, 28, 29, 30, 31, 32, 33, 34, 35, 36, 37, 38, 39, 40, 41, 42, 43, 44, 45, 46, 47, 48, 49, 50, 51, 52, 53, 54, 55, 56, 0, 1, 2, 3, 4, 5, 6, 7, 8, 9, 10, 11, 12, 13, 14, 15] rfl
  have hD : va_D A (wLaw ga gl go gm cA n ua1 uL2 uo3 um) := hJ.2.sub [16, 17, 18, 19, 20, 21, 22, 23, 24, 25, 26, 27, 28, 29, 30, 31, 32, 33, 34, 35, 36, 37, 38, 39, 40, 41, 42, 43, 44, 45, 46, 47, 48, 49, 50, 51, 52, 53, 54, 55, 56, 0, 1, 2, 3, 4, 5, 6, 7, 8, 9, 10, 11, 12, 13, 14, 15] (by decide) rfl
  clear hP1 hD1 hK1 hk1 hz1 hFc hDc hPc ht hJ
  generalize H1 = H at hP hS ⊢
  refine lv_istore (lv' := [(5, .int k5), (0, .ref b), (1, .ref (ga 0)), (2, .ref (gm 0)), (3, .ref go), (4, .int x4)]) hx hb dL_law_425 hl (by decide) rfl (fun ls hl => ?_)
  refine lv_aload_n hx hb dL_law_427 rfl (lv_at hl 3 rfl) ?_
  refine lv_aload_n hx hb dL_law_428 rfl (lv_at hl 1 rfl) ?_
  refine lv_iload hx hb dL_law_429 (lv_at hl 5 rfl) ?_
  refine lv_iconst (v := 1) hx hb dL_law_431 (by decide) ?_
  refine lv_iadd hx hb dL_law_432 ?_
  refine va_sld hx hb hX hbl hbA hS hv0 dL_law_433 ?_
  refine lv_aload_n hx hb dL_law_434 rfl (lv_at hl 1 rfl) ?_
  refine lv_iload hx hb dL_law_435 (lv_at hl 5 rfl) ?_
  refine lv_iconst (v := 2) hx hb dL_law_437 (by decide) ?_
  refine lv_iadd hx hb dL_law_438 ?_
  refine va_sld hx hb hX hbl hbA hS hv1 dL_law_439 ?_
  refine xbool hx hb dL_law_440 dL_law_443 dL_law_444 dL_law_447 ?_
  have hPc := hP.sub (ws' := (w_md gm cA um)) [41, 42, 43, 44, 45, 46, 47, 48, 49, 50, 51, 52, 53, 54, 55, 56] rfl
  have hDc := hD.sub (ws' := (w_md gm cA um)) [41, 42, 43, 44, 45, 46, 47, 48, 49, 50, 51, 52, 53, 54, 55, 56] (by decide) rfl
  have hFc := va_free (wc := (w_md gm cA um)) hD hS hA [41, 42, 43, 44, 45, 46, 47, 48, 49, 50, 51, 52, 53, 54, 55, 56] rfl
  refine va_calli (va_runV (As := [.int (xs (x4 + 1).toNatClampNeg), .int (bI (xs (x4 + 2).toNatClampNeg))]) (rest := []) ⟨hx, hb, hml, hown, hts⟩ (c_X4_mask l dC dI cA gm _ um (xs (x4 + 1).toNatClampNeg) (bI (xs (x4 + 2).toNatClampNeg)) _ hw) (gcV 2 hts m698 m695 m696 m697 m24 rfl rfl (by decide +kernel) ⟨Nat.le_of_ble_eq_true rfl, Nat.le_of_ble_eq_true rfl⟩) ⟨xbl2, va_recv hK hPc (ci := 3) (q0 := 0) rfl rfl, fun U hU hW => ⟨rfl, by rw [hU], by rw [hU]; exact hPc, va_K.moved hW.alike hK, hDc.weaken (fun _ _ _ _ => trivial)⟩⟩ rfl rfl hl.1 rfl (lv_room (Nat.le_of_ble_eq_true rfl)) dL_law_448 ⟨show (cells + 2) + 0 ≤ 601024 by omega, show (slots + 12) + 0 ≤ 7293000 by omega⟩) hS (fun q _ h => hFc q h) hFc (fun b6 u t H1 locs ht hvm hw hB hz1 hk1 hS => ?_)
  obtain ⟨um4, e_u⟩ : ∃ z, z = u := ⟨_, rfl⟩
  subst e_u
  obtain ⟨hP1, hK1, hD1⟩ := hB
  rw [ht] at hP1
  have hJ := va_join (wr := wG ga gl go cA n ua1 uL2 uo3) (w1 := w_md gm cA um4) hP hD [41, 42, 43, 44, 45, 46, 47, 48, 49, 50, 51, 52, 53, 54, 55, 56] [0, 1, 2, 3, 4, 5, 6, 7, 8, 9, 10, 11, 12, 13, 14, 15, 16, 17, 18, 19, 20, 21, 22, 23, 24, 25, 26, 27, 28, 29, 30, 31, 32, 33, 34, 35, 36, 37, 38, 39, 40] rfl rfl (by decide) (by decide) hk1 hFc hP1 hD1
  have hP : va_P (dC, dI) vwCl (wLaw ga gl go gm cA n ua1 uL2 uo3 um4) H1 := hJ.1.sub [0, 1, 2, 3, 4, 5, 6, 7, 8, 9, 10, 11, 12, 13, 14, 15, 16, 17, 18, 19, 20, 21, 22, 23, 24, 25, 26, 27, 28, 29, 30, 31, 32, 33, 34, 35, 36, 37, 38, 39, 40, 41, 42, 43, 44, 45, 46, 47, 48, 49, 50, 51, 52, 53, 54, 55, 56] rfl
  have hD : va_D A (wLaw ga gl go gm cA n ua1 uL2 uo3 um4) := hJ.2.sub [0, 1, 2, 3, 4, 5, 6, 7, 8, 9, 10, 11, 12, 13, 14, 15, 16, 17, 18, 19, 20, 21, 22, 23, 24, 25, 26, 27, 28, 29, 30, 31, 32, 33, 34, 35, 36, 37, 38, 39, 40, 41, 42, 43, 44, 45, 46, 47, 48, 49, 50, 51, 52, 53, 54, 55, 56] (by decide) rfl
  clear hP1 hD1 hK1 hk1 hz1 hFc hDc hPc ht hJ
  generalize H1 = H at hP hS ⊢
  refine lv_istore (lv' := [(6, .int b6), (5, .int k5), (0, .ref b), (1, .ref (ga 0)), (2, .ref (gm 0)), (3, .ref go), (4, .int x4)]) hx hb dL_law_451 hl (by decide) rfl (fun ls hl => ?_)
  refine lv_aload_n hx hb dL_law_453 rfl (lv_at hl 4 rfl) ?_
  have hPc := hP.sub (ws' := (w_md gm cA um4)) [41, 42, 43, 44, 45, 46, 47, 48, 49, 50, 51, 52, 53, 54, 55, 56] rfl
  refine vp_callSi (va_Run.run (va_runV (As := []) (rest := []) ⟨hx, hb, hml, hown, hts⟩ (c_X4_thrown l dC dI cA gm um4 _ hw) (gcV 0 hts m602 m599 m600 m601 m24 rfl rfl (by decide +kernel) ⟨Nat.le_of_ble_eq_true rfl, Nat.le_of_ble_eq_true rfl⟩) ⟨xbl1, va_recv hK hPc (ci := 3) (q0 := 0) rfl rfl, fun U hU hW => ⟨rfl, by rw [hU]; exact hPc, va_K.moved hW.alike hK⟩⟩ rfl rfl hl.1 rfl (lv_room (Nat.le_of_ble_eq_true rfl)) dL_law_454 ⟨show (cells + 2 + 0) + 0 ≤ 601024 by omega, show (slots + 12 + 0) + 0 ≤ 7293000 by omega⟩)) (fun tt hw => ?_)
  clear hPc
  refine lv_iload hx hb dL_law_457 (lv_at hl 1 rfl) ?_
  refine lv_icmp_eq (tgt := 464) hx hb dL_law_459 (by decide) (fun c1 => ?_) (fun c1 => absurd (And.left hw) c1)
  replace hw := And.right hw
  refine lv_iload hx hb dL_law_464 (lv_at hl 1 rfl) ?_
  have hq := And.left hw
  replace hw := And.right hw
  have hfin : W p l e room_1 s m #[Value.ref b] below meth c H locs (cells + 2 + 0) (slots + 12 + 0) (lw_Z below #[Value.ref b] s) (F0 m 481 ls []) := by
    refine lv_goto (tgt := 1231) hx hb dL_law_481 (by decide) ?_
    exact hnext _ _ _ _ hw _ _ (by omega) (by omega) _ _ _ hP hD hS (lv_sub hl [2, 3, 4, 5, 6] rfl)
  refine lv_if_ne (tgt := 481) hx hb dL_law_466 (by decide) (fun c2 => hfin) (fun c2 => ?_)
  refine lv_aload_n hx hb dL_law_469 rfl (lv_at hl 5 rfl) ?_
  refine lv_iconst (v := 0) hx hb dL_law_470 (by decide) ?_
  refine va_lald hx hb hK hP 40 3 rfl rfl (xin (by decide)) dL_law_471 ?_
  refine lv_iload hx hb dL_law_472 (lv_at hl 0 rfl) ?_
  refine lv_i2l hx hb dL_law_474 rfl ?_
  refine W.lcmp hx hb dL_law_475 ?_
  exact lv_if_eq (tgt := 481) hx hb dL_law_476 (by decide) (fun c3 => hfin) (fun c3 => absurd (xlcmp (hq c2)) c3)
def wp_case_unmask (L : Nat) (xs : Nat → Int32) (n : Nat) (NX : (Nat → Nat → Int32) → (Nat → Nat → Nat → Int32) → (Nat → Int64) → (Nat → Nat → Int32) → Prop) (x4 : Int32) (ua : Nat → Nat → Int32) (uL : Nat → Nat → Nat → Int32) (uo : Nat → Int64) (um : Nat → Nat → Int32) : Prop :=
  wp_X3_unmask n ua (fun ua1 => wp_X4_unmask um (fun um2 => NX ua1 uL uo um2))
set_option maxHeartbeats 4000000 in
set_option maxRecDepth 100000 in
theorem law_unmask {p : Program} {l : Launch} {e : Env} {s : State} {m : MethodId} {below : List Frame} {meth : Method} {c : Code} {dC : Nat → ClassId} {dI : Nat → Nat → Nat} {cA : Nat → ClassId} {sa : Nat → Nat} {b L : Nat} {xs : Nat → Int32} {ga : Nat → Nat} {gl : Nat → Nat → Nat} {go : Nat} {gm : Nat → Nat} {n : Nat} {A : Nat → Prop} {NX : (Nat → Nat → Int32) → (Nat → Nat → Nat → Int32) → (Nat → Int64) → (Nat → Nat → Int32) → Prop} {x4 : Int32} {cM sM : Nat} (C0 : lCx p l s m meth c dC dI cA sa b L xs A) (hnext : ∀ (ua : Nat → Nat → Int32) (uL : Nat → Nat → Nat → Int32) (uo : Nat → Int64) (um : Nat → Nat → Int32), NX ua uL uo um → ∀ (cells slots : Nat), cells ≤ cM → slots ≤ sM → ∀ (H : Heap) (locs : List Loc) (ls : Array Slot), va_P (dC, dI) vwCl (wLaw ga gl go gm cA n ua uL uo um) H → va_D A (wLaw ga gl go gm cA n ua uL uo um) → va_S A s.heap H locs → lv_has ls 7 [(0, .ref b), (1, .ref (ga 0)), (2, .ref (gm 0)), (3, .ref go), (4, .int x4)] → W p l e room_1 s m #[Value.ref b] below meth c H locs cells slots (lw_Z below #[Value.ref b] s) (F0 m 1231 ls []))
    (ua : Nat → Nat → Int32) (uL : Nat → Nat → Nat → Int32) (uo : Nat → Int64) (um : Nat → Nat → Int32) {ls : Array Slot} {H : Heap} {locs : List Loc} (cells slots : Nat) (hc9 : cells + 3 ≤ cM) (hs9 : slots + 18 ≤ sM) (hcM : cM ≤ 601024) (hsM : sM ≤ 7293000) (hw : wp_case_unmask L xs n NX x4 ua uL uo um) (hP : va_P (dC, dI) vwCl (wLaw ga gl go gm cA n ua uL uo um) H) (hD : va_D A (wLaw ga gl go gm cA n ua uL uo um)) (hS : va_S A s.heap H locs) (hl : lv_has ls 7 [(0, .ref b), (1, .ref (ga 0)), (2, .ref (gm 0)), (3, .ref go), (4, .int x4)]) : W p l e room_1 s m #[Value.ref b] below meth c H locs cells slots (lw_Z below #[Value.ref b] s) (F0 m 484 ls []) := by
  obtain ⟨hx, hb, hml, hown, hts, hX, hbl, hbA, hA, hK, hE, hN1, hN2, hN3, hl0⟩ := C0
  refine lv_aload_n hx hb dL_law_484 rfl (lv_at hl 1 rfl) ?_
  have hPc := hP.sub (ws' := (w_br ga gl cA n ua)) [0, 1, 2, 3] rfl
  have hDc := hD.sub (ws' := (w_br ga gl cA n ua)) [0, 1, 2, 3] (by decide) rfl
  have hFc := va_free (wc := (w_br ga gl cA n ua)) hD hS hA [0, 1, 2, 3] rfl
  refine va_callv (va_runV (As := []) (rest := []) ⟨hx, hb, hml, hown, hts⟩ (c_X3_unmask l dC dI cA ga gl n _ ua _ hw) (gcV 0 hts m122 m119 m120 m121 m21 rfl rfl (by decide +kernel) ⟨Nat.le_of_ble_eq_true rfl, Nat.le_of_ble_eq_true rfl⟩) ⟨xbl2, va_recv hK hPc (ci := 2) (q0 := 0) rfl rfl, fun U hU hW => ⟨rfl, by rw [hU], by rw [hU]; exact hPc, va_K.moved hW.alike hK, hDc.weaken (fun _ _ _ _ => trivial)⟩⟩ rfl rfl hl.1 rfl (lv_room (Nat.le_of_ble_eq_true rfl)) dL_law_485 ⟨show (cells) + 0 ≤ 601024 by omega, show (slots) + 0 ≤ 7293000 by omega⟩) hS (fun q _ h => hFc q h) hFc (fun u t H1 locs ht hvm hw hB hz1 hk1 hS => ?_)
  obtain ⟨ua1, e_u⟩ : ∃ z, z = u := ⟨_, rfl⟩
  subst e_u
  obtain ⟨hP1, hK1, hD1⟩ := hB
  rw [ht] at hP1
  have hJ := va_join (wr := wL gl cA n uL ++ w_o go cA uo ++ w_md gm cA um) (w1 := w_br ga gl cA n ua1) hP hD [0, 1, 2, 3] [4, 5, 6, 7, 8, 9, 10, 11, 12, 13, 14, 15, 16, 17, 18, 19, 20, 21, 22, 23, 24, 25, 26, 27, 28, 29, 30, 31, 32, 33, 34, 35, 36, 37, 38, 39, 40, 41, 42, 43, 44, 45, 46, 47, 48, 49, 50, 51, 52, 53, 54, 55, 56] rfl rfl (by decide) (by decide) hk1 hFc hP1 hD1
  have hP : va_P (dC, dI) vwCl (wLaw ga gl go gm cA n ua1 uL uo um) H1 := hJ.1.sub [53, 54, 55, 56, 0, 1, 2, 3, 4, 5, 6, 7, 8, 9, 10, 11, 12, 13, 14, 15, 16, 17, 18, 19, 20, 21, 22, 23, 24, 25, 26, 27, 28, 29, 30, 31, 32, 33, 34, 35, 36, 37, 38, 39, 40, 41, 42, 43, 44, 45, 46, 47, 48, 49, 50, 51, 52] rfl
  have hD : va_D A (wLaw ga gl go gm cA n ua1 uL uo um) := hJ.2.sub [53, 54, 55, 56, 0, 1, 2, 3, 4, 5, 6, 7, 8, 9, 10, 11, 12, 13, 14, 15, 16, 17, 18, 19, 20, 21, 22, 23, 24, 25, 26, 27, 28, 29, 30, 31, 32, 33, 34, 35, 36, 37, 38, 39, 40, 41, 42, 43, 44, 45, 46, 47, 48, 49, 50, 51, 52] (by decide) rfl
  clear hP1 hD1 hK1 hk1 hz1 hFc hDc hPc ht hJ
  generalize H1 = H at hP hS ⊢
  refine lv_aload_n hx hb dL_law_488 rfl (lv_at hl 2 rfl) ?_
  have hPc := hP.sub (ws' := (w_md gm cA um)) [41, 42, 43, 44, 45, 46, 47, 48, 49, 50, 51, 52, 53, 54, 55, 56] rfl
  have hDc := hD.sub (ws' := (w_md gm cA um)) [41, 42, 43, 44, 45, 46, 47, 48, 49, 50, 51, 52, 53, 54, 55, 56] (by decide) rfl
  have hFc := va_free (wc := (w_md gm cA um)) hD hS hA [41, 42, 43, 44, 45, 46, 47, 48, 49, 50, 51, 52, 53, 54, 55, 56] rfl
  refine va_callv (va_runV (As := []) (rest := []) ⟨hx, hb, hml, hown, hts⟩ (c_X4_unmask l dC dI cA gm _ um _ hw) (gcV 0 hts m702 m699 m700 m701 m24 rfl rfl (by decide +kernel) ⟨Nat.le_of_ble_eq_true rfl, Nat.le_of_ble_eq_true rfl⟩) ⟨xbl2, va_recv hK hPc (ci := 3) (q0 := 0) rfl rfl, fun U hU hW => ⟨rfl, by rw [hU], by rw [hU]; exact hPc, va_K.moved hW.alike hK, hDc.weaken (fun _ _ _ _ => trivial)⟩⟩ rfl rfl hl.1 rfl (lv_room (Nat.le_of_ble_eq_true rfl)) dL_law_489 ⟨show (cells + 0) + 0 ≤ 601024 by omega, show (slots + 0) + 0 ≤ 7293000 by omega⟩) hS (fun q _ h => hFc q h) hFc (fun u t H1 locs ht hvm hw hB hz1 hk1 hS => ?_)
  obtain ⟨um2, e_u⟩ : ∃ z, z = u := ⟨_, rfl⟩
  subst e_u
  obtain ⟨hP1, hK1, hD1⟩ := hB
  rw [ht] at hP1
  have hJ := va_join (wr := wG ga gl go cA n ua1 uL uo) (w1 := w_md gm cA um2) hP hD [41, 42, 43, 44, 45, 46, 47, 48, 49, 50, 51, 52, 53, 54, 55, 56] [0, 1, 2, 3, 4, 5, 6, 7, 8, 9, 10, 11, 12, 13, 14, 15, 16, 17, 18, 19, 20, 21, 22, 23, 24, 25, 26, 27, 28, 29, 30, 31, 32, 33, 34, 35, 36, 37, 38, 39, 40] rfl rfl (by decide) (by decide) hk1 hFc hP1 hD1
  have hP : va_P (dC, dI) vwCl (wLaw ga gl go gm cA n ua1 uL uo um2) H1 := hJ.1.sub [0, 1, 2, 3, 4, 5, 6, 7, 8, 9, 10, 11, 12, 13, 14, 15, 16, 17, 18, 19, 20, 21, 22, 23, 24, 25, 26, 27, 28, 29, 30, 31, 32, 33, 34, 35, 36, 37, 38, 39, 40, 41, 42, 43, 44, 45, 46, 47, 48, 49, 50, 51, 52, 53, 54, 55, 56] rfl
  have hD : va_D A (wLaw ga gl go gm cA n ua1 uL uo um2) := hJ.2.sub [0, 1, 2, 3, 4, 5, 6, 7, 8, 9, 10, 11, 12, 13, 14, 15, 16, 17, 18, 19, 20, 21, 22, 23, 24, 25, 26, 27, 28, 29, 30, 31, 32, 33, 34, 35, 36, 37, 38, 39, 40, 41, 42, 43, 44, 45, 46, 47, 48, 49, 50, 51, 52, 53, 54, 55, 56] (by decide) rfl
  clear hP1 hD1 hK1 hk1 hz1 hFc hDc hPc ht hJ
  generalize H1 = H at hP hS ⊢
  refine lv_goto (tgt := 1231) hx hb dL_law_492 (by decide) ?_
  exact hnext _ _ _ _ hw _ _ (by omega) (by omega) _ _ _ hP hD hS (lv_sub hl [0, 1, 2, 3, 4] rfl)
def wp_case_colour (L : Nat) (xs : Nat → Int32) (n : Nat) (NX : (Nat → Nat → Int32) → (Nat → Nat → Nat → Int32) → (Nat → Int64) → (Nat → Nat → Int32) → Prop) (x4 : Int32) (ua : Nat → Nat → Int32) (uL : Nat → Nat → Nat → Int32) (uo : Nat → Int64) (um : Nat → Nat → Int32) : Prop :=
  (vp_in (x4 + 1) L ∧ (vp_in (x4 + 2) L ∧ (wp_L_colour n ua uL uo (xs (x4 + 1).toNatClampNeg) (xs (x4 + 2).toNatClampNeg) (fun k5 ua1 uL2 uo3 => wp_X4_colour um (xs (x4 + 1).toNatClampNeg) (xs (x4 + 2).toNatClampNeg) (fun um4 => wp_X4_thrown um4 (fun tt => (tt = k5 ∧ NX ua1 uL2 uo3 um4)))))))
set_option maxHeartbeats 4000000 in
set_option maxRecDepth 100000 in
theorem law_colour {p : Program} {l : Launch} {e : Env} {s : State} {m : MethodId} {below : List Frame} {meth : Method} {c : Code} {dC : Nat → ClassId} {dI : Nat → Nat → Nat} {cA : Nat → ClassId} {sa : Nat → Nat} {b L : Nat} {xs : Nat → Int32} {ga : Nat → Nat} {gl : Nat → Nat → Nat} {go : Nat} {gm : Nat → Nat} {n : Nat} {A : Nat → Prop} {NX : (Nat → Nat → Int32) → (Nat → Nat → Nat → Int32) → (Nat → Int64) → (Nat → Nat → Int32) → Prop} {x4 : Int32} {cM sM : Nat} (C0 : lCx p l s m meth c dC dI cA sa b L xs A) (hnext : ∀ (ua : Nat → Nat → Int32) (uL : Nat → Nat → Nat → Int32) (uo : Nat → Int64) (um : Nat → Nat → Int32), NX ua uL uo um → ∀ (cells slots : Nat), cells ≤ cM → slots ≤ sM → ∀ (H : Heap) (locs : List Loc) (ls : Array Slot), va_P (dC, dI) vwCl (wLaw ga gl go gm cA n ua uL uo um) H → va_D A (wLaw ga gl go gm cA n ua uL uo um) → va_S A s.heap H locs → lv_has ls 7 [(0, .ref b), (1, .ref (ga 0)), (2, .ref (gm 0)), (3, .ref go), (4, .int x4)] → W p l e room_1 s m #[Value.ref b] below meth c H locs cells slots (lw_Z below #[Value.ref b] s) (F0 m 1231 ls []))
    (ua : Nat → Nat → Int32) (uL : Nat → Nat → Nat → Int32) (uo : Nat → Int64) (um : Nat → Nat → Int32) {ls : Array Slot} {H : Heap} {locs : List Loc} (cells slots : Nat) (hc9 : cells + 3 ≤ cM) (hs9 : slots + 18 ≤ sM) (hcM : cM ≤ 601024) (hsM : sM ≤ 7293000) (hw : wp_case_colour L xs n NX x4 ua uL uo um) (hP : va_P (dC, dI) vwCl (wLaw ga gl go gm cA n ua uL uo um) H) (hD : va_D A (wLaw ga gl go gm cA n ua uL uo um)) (hS : va_S A s.heap H locs) (hl : lv_has ls 7 [(0, .ref b), (1, .ref (ga 0)), (2, .ref (gm 0)), (3, .ref go), (4, .int x4)]) : W p l e room_1 s m #[Value.ref b] below meth c H locs cells slots (lw_Z below #[Value.ref b] s) (F0 m 495 ls []) := by
  obtain ⟨hx, hb, hml, hown, hts, hX, hbl, hbA, hA, hK, hE, hN1, hN2, hN3, hl0⟩ := C0
  refine lv_aload_n hx hb dL_law_495 rfl (lv_at hl 1 rfl) ?_
  refine lv_aload_n hx hb dL_law_496 rfl (lv_at hl 0 rfl) ?_
  refine lv_iload hx hb dL_law_497 (lv_at hl 4 rfl) ?_
  refine lv_iconst (v := 1) hx hb dL_law_499 (by decide) ?_
  refine lv_iadd hx hb dL_law_500 ?_
  have hv0 := And.left hw
  replace hw := And.right hw
  refine va_sld hx hb hX hbl hbA hS hv0 dL_law_501 ?_
  refine lv_aload_n hx hb dL_law_502 rfl (lv_at hl 0 rfl) ?_
  refine lv_iload hx hb dL_law_503 (lv_at hl 4 rfl) ?_
  refine lv_iconst (v := 2) hx hb dL_law_505 (by decide) ?_
  refine lv_iadd hx hb dL_law_506 ?_
  have hv1 := And.left hw
  replace hw := And.right hw
  refine va_sld hx hb hX hbl hbA hS hv1 dL_law_507 ?_
  have hPc := hP.sub (ws' := (wG ga gl go cA n ua uL uo)) [0, 1, 2, 3, 4, 5, 6, 7, 8, 9, 10, 11, 12, 13, 14, 15, 16, 17, 18, 19, 20, 21, 22, 23, 24, 25, 26, 27, 28, 29, 30, 31, 32, 33, 34, 35, 36, 37, 38, 39, 40] rfl
  have hDc := hD.sub (ws' := (wG ga gl go cA n ua uL uo)) [0, 1, 2, 3, 4, 5, 6, 7, 8, 9, 10, 11, 12, 13, 14, 15, 16, 17, 18, 19, 20, 21, 22, 23, 24, 25, 26, 27, 28, 29, 30, 31, 32, 33, 34, 35, 36, 37, 38, 39, 40] (by decide) rfl
  have hFc := va_free (wc := (wG ga gl go cA n ua uL uo)) hD hS hA [0, 1, 2, 3, 4, 5, 6, 7, 8, 9, 10, 11, 12, 13, 14, 15, 16, 17, 18, 19, 20, 21, 22, 23, 24, 25, 26, 27, 28, 29, 30, 31, 32, 33, 34, 35, 36, 37, 38, 39, 40] rfl
  refine va_calli (vx_runSW (As := [.ref (ga 0), .int (xs (x4 + 1).toNatClampNeg), .int (xs (x4 + 2).toNatClampNeg)]) (rest := []) ⟨hx, hb, hml, hown, hts⟩ (c_L_colour l hl0 dC dI cA sa ga gl go n _ ua uL uo (xs (x4 + 1).toNatClampNeg) (xs (x4 + 2).toNatClampNeg) _ hw) (gcSW 3 hts (fun w h => xm h) m413 m411 m412 m20 rfl rfl (by decide +kernel) ⟨Nat.le_of_ble_eq_true rfl, Nat.le_of_ble_eq_true rfl⟩) ⟨xbl2w, fun U hU hW => ⟨rfl, by rw [hU], by rw [hU]; exact hPc, va_K.moved hW.alike hK, hDc.weaken (fun _ _ _ _ => trivial), xEmvA hE hW hS hU, va_Nc.moved hW.alike hN1, va_Nc.moved hW.alike hN2, va_Nc.moved hW.alike hN3⟩⟩ rfl rfl hl.1 rfl (lv_room (Nat.le_of_ble_eq_true rfl)) dL_law_508 ⟨show (cells) + 2 ≤ 601024 by omega, show (slots) + 12 ≤ 7293000 by omega⟩) hS (fun q _ h => hFc q h) hFc (fun k5 u t H1 locs ht hvm hw hB hz1 hk1 hS => ?_)
  obtain ⟨ua1, uL2, uo3⟩ := u
  obtain ⟨hP1, hK1, hD1⟩ := hB
  rw [ht] at hP1
  dsimp only at hw
  have hJ := va_join (wr := w_md gm cA um) (w1 := wG ga gl go cA n ua1 uL2 uo3) hP hD [0, 1, 2, 3, 4, 5, 6, 7, 8, 9, 10, 11, 12, 13, 14, 15, 16, 17, 18, 19, 20, 21, 22, 23, 24, 25, 26, 27, 28, 29, 30, 31, 32, 33, 34, 35, 36, 37, 38, 39, 40] [41, 42, 43, 44, 45, 46, 47, 48, 49, 50, 51, 52, 53, 54, 55, 56] rfl rfl (by decide) (by decide) hk1 hFc hP1 hD1
  have hP : va_P (dC, dI) vwCl (wLaw ga gl go gm cA n ua1 uL2 uo3 um) H1 := hJ.1.sub [16, 17, 18, 19, 20, 21, 22, 23, 24, 25, 26, 27, 28, 29, 30, 31, 32, 33, 34, 35, 36, 37, 38, 39, 40, 41, 42, 43, 44, 45, 46, 47, 48, 49, 50, 51, 52, 53, 54, 55, 56, 0, 1, 2, 3, 4, 5, 6, 7, 8, 9, 10, 11, 12, 13, 14, 15] rfl
  have hD : va_D A (wLaw ga gl go gm cA n ua1 uL2 uo3 um) := hJ.2.sub [16, 17, 18, 19, 20, 21, 22, 23, 24, 25, 26, 27, 28, 29, 30, 31, 32, 33, 34, 35, 36, 37, 38, 39, 40, 41, 42, 43, 44, 45, 46, 47, 48, 49, 50, 51, 52, 53, 54, 55, 56, 0, 1, 2, 3, 4, 5, 6, 7, 8, 9, 10, 11, 12, 13, 14, 15] (by decide) rfl
  clear hP1 hD1 hK1 hk1 hz1 hFc hDc hPc ht hJ
  generalize H1 = H at hP hS ⊢
  refine lv_istore (lv' := [(5, .int k5), (0, .ref b), (1, .ref (ga 0)), (2, .ref (gm 0)), (3, .ref go), (4, .int x4)]) hx hb dL_law_511 hl (by decide) rfl (fun ls hl => ?_)
  refine lv_aload_n hx hb dL_law_513 rfl (lv_at hl 3 rfl) ?_
  refine lv_aload_n hx hb dL_law_514 rfl (lv_at hl 1 rfl) ?_
  refine lv_iload hx hb dL_law_515 (lv_at hl 5 rfl) ?_
  refine lv_iconst (v := 1) hx hb dL_law_517 (by decide) ?_
  refine lv_iadd hx hb dL_law_518 ?_
  refine va_sld hx hb hX hbl hbA hS hv0 dL_law_519 ?_
  refine lv_aload_n hx hb dL_law_520 rfl (lv_at hl 1 rfl) ?_
  refine lv_iload hx hb dL_law_521 (lv_at hl 5 rfl) ?_
  refine lv_iconst (v := 2) hx hb dL_law_523 (by decide) ?_
  refine lv_iadd hx hb dL_law_524 ?_
  refine va_sld hx hb hX hbl hbA hS hv1 dL_law_525 ?_
  have hPc := hP.sub (ws' := (w_md gm cA um)) [41, 42, 43, 44, 45, 46, 47, 48, 49, 50, 51, 52, 53, 54, 55, 56] rfl
  have hDc := hD.sub (ws' := (w_md gm cA um)) [41, 42, 43, 44, 45, 46, 47, 48, 49, 50, 51, 52, 53, 54, 55, 56] (by decide) rfl
  have hFc := va_free (wc := (w_md gm cA um)) hD hS hA [41, 42, 43, 44, 45, 46, 47, 48, 49, 50, 51, 52, 53, 54, 55, 56] rfl
  refine va_callv (va_runV (As := [.int (xs (x4 + 1).toNatClampNeg), .int (xs (x4 + 2).toNatClampNeg)]) (rest := []) ⟨hx, hb, hml, hown, hts⟩ (c_X4_colour l dC dI cA gm _ um (xs (x4 + 1).toNatClampNeg) (xs (x4 + 2).toNatClampNeg) _ hw) (gcV 2 hts m706 m703 m704 m705 m24 rfl rfl (by decide +kernel) ⟨Nat.le_of_ble_eq_true rfl, Nat.le_of_ble_eq_true rfl⟩) ⟨xbl2, va_recv hK hPc (ci := 3) (q0 := 0) rfl rfl, fun U hU hW => ⟨rfl, by rw [hU], by rw [hU]; exact hPc, va_K.moved hW.alike hK, hDc.weaken (fun _ _ _ _ => trivial)⟩⟩ rfl rfl hl.1 rfl (lv_room (Nat.le_of_ble_eq_true rfl)) dL_law_526 ⟨show (cells + 2) + 0 ≤ 601024 by omega, show (slots + 12) + 0 ≤ 7293000 by omega⟩) hS (fun q _ h => hFc q h) hFc (fun u t H1 locs ht hvm hw hB hz1 hk1 hS => ?_)
  obtain ⟨um4, e_u⟩ : ∃ z, z = u := ⟨_, rfl⟩
  subst e_u
  obtain ⟨hP1, hK1, hD1⟩ := hB
  rw [ht] at hP1
  have hJ := va_join (wr := wG ga gl go cA n ua1 uL2 uo3) (w1 := w_md gm cA um4) hP hD [41, 42, 43, 44, 45, 46, 47, 48, 49, 50, 51, 52, 53, 54, 55, 56] [0, 1, 2, 3, 4, 5, 6, 7, 8, 9, 10, 11, 12, 13, 14, 15, 16, 17, 18, 19, 20, 21, 22, 23, 24, 25, 26, 27, 28, 29, 30, 31, 32, 33, 34, 35, 36, 37, 38, 39, 40] rfl rfl (by decide) (by decide) hk1 hFc hP1 hD1
  have hP : va_P (dC, dI) vwCl (wLaw ga gl go gm cA n ua1 uL2 uo3 um4) H1 := hJ.1.sub [0, 1, 2, 3, 4, 5, 6, 7, 8, 9, 10, 11, 12, 13, 14, 15, 16, 17, 18, 19, 20, 21, 22, 23, 24, 25, 26, 27, 28, 29, 30, 31, 32, 33, 34, 35, 36, 37, 38, 39, 40, 41, 42, 43, 44, 45, 46, 47, 48, 49, 50, 51, 52, 53, 54, 55, 56] rfl
  have hD : va_D A (wLaw ga gl go gm cA n ua1 uL2 uo3 um4) := hJ.2.sub [0, 1, 2, 3, 4, 5, 6, 7, 8, 9, 10, 11, 12, 13, 14, 15, 16, 17, 18, 19, 20, 21, 22, 23, 24, 25, 26, 27, 28, 29, 30, 31, 32, 33, 34, 35, 36, 37, 38, 39, 40, 41, 42, 43, 44, 45, 46, 47, 48, 49, 50, 51, 52, 53, 54, 55, 56] (by decide) rfl
  clear hP1 hD1 hK1 hk1 hz1 hFc hDc hPc ht hJ
  generalize H1 = H at hP hS ⊢
  refine lv_aload_n hx hb dL_law_529 rfl (lv_at hl 3 rfl) ?_
  have hPc := hP.sub (ws' := (w_md gm cA um4)) [41, 42, 43, 44, 45, 46, 47, 48, 49, 50, 51, 52, 53, 54, 55, 56] rfl
  refine vp_callSi (va_Run.run (va_runV (As := []) (rest := []) ⟨hx, hb, hml, hown, hts⟩ (c_X4_thrown l dC dI cA gm um4 _ hw) (gcV 0 hts m602 m599 m600 m601 m24 rfl rfl (by decide +kernel) ⟨Nat.le_of_ble_eq_true rfl, Nat.le_of_ble_eq_true rfl⟩) ⟨xbl1, va_recv hK hPc (ci := 3) (q0 := 0) rfl rfl, fun U hU hW => ⟨rfl, by rw [hU]; exact hPc, va_K.moved hW.alike hK⟩⟩ rfl rfl hl.1 rfl (lv_room (Nat.le_of_ble_eq_true rfl)) dL_law_530 ⟨show (cells + 2 + 0) + 0 ≤ 601024 by omega, show (slots + 12 + 0) + 0 ≤ 7293000 by omega⟩)) (fun tt hw => ?_)
  clear hPc
  refine lv_iload hx hb dL_law_533 (lv_at hl 0 rfl) ?_
  refine lv_icmp_eq (tgt := 540) hx hb dL_law_535 (by decide) (fun c1 => ?_) (fun c1 => absurd (And.left hw) c1)
  replace hw := And.right hw
  refine lv_goto (tgt := 1231) hx hb dL_law_540 (by decide) ?_
  exact hnext _ _ _ _ hw _ _ (by omega) (by omega) _ _ _ hP hD hS (lv_sub hl [1, 2, 3, 4, 5] rfl)
def wp_case_stays (L : Nat) (xs : Nat → Int32) (n : Nat) (NX : (Nat → Nat → Int32) → (Nat → Nat → Nat → Int32) → (Nat → Int64) → (Nat → Nat → Int32) → Prop) (x4 : Int32) (ua : Nat → Nat → Int32) (uL : Nat → Nat → Nat → Int32) (uo : Nat → Int64) (um : Nat → Nat → Int32) : Prop :=
  (vp_in (x4 + 1) L ∧ (vp_in (x4 + 2) L ∧ (wp_L_stays n ua uL uo (xs (x4 + 1).toNatClampNeg) (bI (xs (x4 + 2).toNatClampNeg)) (fun k5 ua1 uL2 uo3 => wp_X4_stays um (xs (x4 + 1).toNatClampNeg) (bI (xs (x4 + 2).toNatClampNeg)) (fun um4 => wp_X4_thrown um4 (fun tt => (tt = k5 ∧ NX ua1 uL2 uo3 um4)))))))
set_option maxHeartbeats 4000000 in
set_option maxRecDepth 100000 in
theorem law_stays {p : Program} {l : Launch} {e : Env} {s : State} {m : MethodId} {below : List Frame} {meth : Method} {c : Code} {dC : Nat → ClassId} {dI : Nat → Nat → Nat} {cA : Nat → ClassId} {sa : Nat → Nat} {b L : Nat} {xs : Nat → Int32} {ga : Nat → Nat} {gl : Nat → Nat → Nat} {go : Nat} {gm : Nat → Nat} {n : Nat} {A : Nat → Prop} {NX : (Nat → Nat → Int32) → (Nat → Nat → Nat → Int32) → (Nat → Int64) → (Nat → Nat → Int32) → Prop} {x4 : Int32} {cM sM : Nat} (C0 : lCx p l s m meth c dC dI cA sa b L xs A) (hnext : ∀ (ua : Nat → Nat → Int32) (uL : Nat → Nat → Nat → Int32) (uo : Nat → Int64) (um : Nat → Nat → Int32), NX ua uL uo um → ∀ (cells slots : Nat), cells ≤ cM → slots ≤ sM → ∀ (H : Heap) (locs : List Loc) (ls : Array Slot), va_P (dC, dI) vwCl (wLaw ga gl go gm cA n ua uL uo um) H → va_D A (wLaw ga gl go gm cA n ua uL uo um) → va_S A s.heap H locs → lv_has ls 7 [(0, .ref b), (1, .ref (ga 0)), (2, .ref (gm 0)), (3, .ref go), (4, .int x4)] → W p l e room_1 s m #[Value.ref b] below meth c H locs cells slots (lw_Z below #[Value.ref b] s) (F0 m 1231 ls []))
    (ua : Nat → Nat → Int32) (uL : Nat → Nat → Nat → Int32) (uo : Nat → Int64) (um : Nat → Nat → Int32) {ls : Array Slot} {H : Heap} {locs : List Loc} (cells slots : Nat) (hc9 : cells + 3 ≤ cM) (hs9 : slots + 18 ≤ sM) (hcM : cM ≤ 601024) (hsM : sM ≤ 7293000) (hw : wp_case_stays L xs n NX x4 ua uL uo um) (hP : va_P (dC, dI) vwCl (wLaw ga gl go gm cA n ua uL uo um) H) (hD : va_D A (wLaw ga gl go gm cA n ua uL uo um)) (hS : va_S A s.heap H locs) (hl : lv_has ls 7 [(0, .ref b), (1, .ref (ga 0)), (2, .ref (gm 0)), (3, .ref go), (4, .int x4)]) : W p l e room_1 s m #[Value.ref b] below meth c H locs cells slots (lw_Z below #[Value.ref b] s) (F0 m 543 ls []) := by
  obtain ⟨hx, hb, hml, hown, hts, hX, hbl, hbA, hA, hK, hE, hN1, hN2, hN3, hl0⟩ := C0
  refine lv_aload_n hx hb dL_law_543 rfl (lv_at hl 1 rfl) ?_
  refine lv_aload_n hx hb dL_law_544 rfl (lv_at hl 0 rfl) ?_
  refine lv_iload hx hb dL_law_545 (lv_at hl 4 rfl) ?_
  refine lv_iconst (v := 1) hx hb dL_law_547 (by decide) ?_
  refine lv_iadd hx hb dL_law_548 ?_
  have hv0 := And.left hw
  replace hw := And.right hw
  refine va_sld hx hb hX hbl hbA hS hv0 dL_law_549 ?_
  refine lv_aload_n hx hb dL_law_550 rfl (lv_at hl 0 rfl) ?_
  refine lv_iload hx hb dL_law_551 (lv_at hl 4 rfl) ?_
  refine lv_iconst (v := 2) hx hb dL_law_553 (by decide) ?_
  refine lv_iadd hx hb dL_law_554 ?_
  have hv1 := And.left hw
  replace hw := And.right hw
  refine va_sld hx hb hX hbl hbA hS hv1 dL_law_555 ?_
  refine xbool hx hb dL_law_556 dL_law_559 dL_law_560 dL_law_563 ?_
  have hPc := hP.sub (ws' := (wG ga gl go cA n ua uL uo)) [0, 1, 2, 3, 4, 5, 6, 7, 8, 9, 10, 11, 12, 13, 14, 15, 16, 17, 18, 19, 20, 21, 22, 23, 24, 25, 26, 27, 28, 29, 30, 31, 32, 33, 34, 35, 36, 37, 38, 39, 40] rfl
  have hDc := hD.sub (ws' := (wG ga gl go cA n ua uL uo)) [0, 1, 2, 3, 4, 5, 6, 7, 8, 9, 10, 11, 12, 13, 14, 15, 16, 17, 18, 19, 20, 21, 22, 23, 24, 25, 26, 27, 28, 29, 30, 31, 32, 33, 34, 35, 36, 37, 38, 39, 40] (by decide) rfl
  have hFc := va_free (wc := (wG ga gl go cA n ua uL uo)) hD hS hA [0, 1, 2, 3, 4, 5, 6, 7, 8, 9, 10, 11, 12, 13, 14, 15, 16, 17, 18, 19, 20, 21, 22, 23, 24, 25, 26, 27, 28, 29, 30, 31, 32, 33, 34, 35, 36, 37, 38, 39, 40] rfl
  refine va_calli (vx_runSW (As := [.ref (ga 0), .int (xs (x4 + 1).toNatClampNeg), .int (bI (xs (x4 + 2).toNatClampNeg))]) (rest := []) ⟨hx, hb, hml, hown, hts⟩ (c_L_stays l hl0 dC dI cA sa ga gl go n _ ua uL uo (xs (x4 + 1).toNatClampNeg) (bI (xs (x4 + 2).toNatClampNeg)) _ hw) (gcSW 3 hts (fun w h => xm h) m445 m443 m444 m20 rfl rfl (by decide +kernel) ⟨Nat.le_of_ble_eq_true rfl, Nat.le_of_ble_eq_true rfl⟩) ⟨xbl2w, fun U hU hW => ⟨rfl, by rw [hU], by rw [hU]; exact hPc, va_K.moved hW.alike hK, hDc.weaken (fun _ _ _ _ => trivial), xEmvA hE hW hS hU, va_Nc.moved hW.alike hN1, va_Nc.moved hW.alike hN2, va_Nc.moved hW.alike hN3⟩⟩ rfl rfl hl.1 rfl (lv_room (Nat.le_of_ble_eq_true rfl)) dL_law_564 ⟨show (cells) + 1 ≤ 601024 by omega, show (slots) + 6 ≤ 7293000 by omega⟩) hS (fun q _ h => hFc q h) hFc (fun k5 u t H1 locs ht hvm hw hB hz1 hk1 hS => ?_)
  obtain ⟨ua1, uL2, uo3⟩ := u
  obtain ⟨hP1, hK1, hD1⟩ := hB
  rw [ht] at hP1
  dsimp only at hw
  have hJ := va_join (wr := w_md gm cA um) (w1 := wG ga gl go cA n ua1 uL2 uo3) hP hD [0, 1, 2, 3, 4, 5, 6, 7, 8, 9, 10, 11, 12, 13, 14, 15, 16, 17, 18, 19, 20, 21, 22, 23, 24, 25, 26, 27, 28, 29, 30, 31, 32, 33, 34, 35, 36, 37, 38, 39, 40] [41, 42, 43, 44, 45, 46, 47, 48, 49, 50, 51, 52, 53, 54, 55, 56] rfl rfl (by decide) (by decide) hk1 hFc hP1 hD1
  have hP : va_P (dC, dI) vwCl (wLaw ga gl go gm cA n ua1 uL2 uo3 um) H1 := hJ.1.sub [16, 17, 18, 19, 20, 21, 22, 23, 24, 25, 26, 27, 28, 29, 30, 31, 32, 33, 34, 35, 36, 37, 38, 39, 40, 41, 42, 43, 44, 45, 46, 47, 48, 49, 50, 51, 52, 53, 54, 55, 56, 0, 1, 2, 3, 4, 5, 6, 7, 8, 9, 10, 11, 12, 13, 14, 15] rfl
  have hD : va_D A (wLaw ga gl go gm cA n ua1 uL2 uo3 um) := hJ.2.sub [16, 17, 18, 19, 20, 21, 22, 23, 24, 25, 26, 27, 28, 29, 30, 31, 32, 33, 34, 35, 36, 37, 38, 39, 40, 41, 42, 43, 44, 45, 46, 47, 48, 49, 50, 51, 52, 53, 54, 55, 56, 0, 1, 2, 3, 4, 5, 6, 7, 8, 9, 10, 11, 12, 13, 14, 15] (by decide) rfl
  clear hP1 hD1 hK1 hk1 hz1 hFc hDc hPc ht hJ
  generalize H1 = H at hP hS ⊢
  refine lv_istore (lv' := [(5, .int k5), (0, .ref b), (1, .ref (ga 0)), (2, .ref (gm 0)), (3, .ref go), (4, .int x4)]) hx hb dL_law_567 hl (by decide) rfl (fun ls hl => ?_)
  refine lv_aload_n hx hb dL_law_569 rfl (lv_at hl 3 rfl) ?_
  refine lv_aload_n hx hb dL_law_570 rfl (lv_at hl 1 rfl) ?_
  refine lv_iload hx hb dL_law_571 (lv_at hl 5 rfl) ?_
  refine lv_iconst (v := 1) hx hb dL_law_573 (by decide) ?_
  refine lv_iadd hx hb dL_law_574 ?_
  refine va_sld hx hb hX hbl hbA hS hv0 dL_law_575 ?_
  refine lv_aload_n hx hb dL_law_576 rfl (lv_at hl 1 rfl) ?_
  refine lv_iload hx hb dL_law_577 (lv_at hl 5 rfl) ?_
  refine lv_iconst (v := 2) hx hb dL_law_579 (by decide) ?_
  refine lv_iadd hx hb dL_law_580 ?_
  refine va_sld hx hb hX hbl hbA hS hv1 dL_law_581 ?_
  refine xbool hx hb dL_law_582 dL_law_585 dL_law_586 dL_law_589 ?_
  have hPc := hP.sub (ws' := (w_md gm cA um)) [41, 42, 43, 44, 45, 46, 47, 48, 49, 50, 51, 52, 53, 54, 55, 56] rfl
  have hDc := hD.sub (ws' := (w_md gm cA um)) [41, 42, 43, 44, 45, 46, 47, 48, 49, 50, 51, 52, 53, 54, 55, 56] (by decide) rfl
  have hFc := va_free (wc := (w_md gm cA um)) hD hS hA [41, 42, 43, 44, 45, 46, 47, 48, 49, 50, 51, 52, 53, 54, 55, 56] rfl
  refine va_callv (va_runV (As := [.int (xs (x4 + 1).toNatClampNeg), .int (bI (xs (x4 + 2).toNatClampNeg))]) (rest := []) ⟨hx, hb, hml, hown, hts⟩ (c_X4_stays l dC dI cA gm _ um (xs (x4 + 1).toNatClampNeg) (bI (xs (x4 + 2).toNatClampNeg)) _ hw) (gcV 2 hts m713 m710 m711 m712 m24 rfl rfl (by decide +kernel) ⟨Nat.le_of_ble_eq_true rfl, Nat.le_of_ble_eq_true rfl⟩) ⟨xbl2, va_recv hK hPc (ci := 3) (q0 := 0) rfl rfl, fun U hU hW => ⟨rfl, by rw [hU], by rw [hU]; exact hPc, va_K.moved hW.alike hK, hDc.weaken (fun _ _ _ _ => trivial)⟩⟩ rfl rfl hl.1 rfl (lv_room (Nat.le_of_ble_eq_true rfl)) dL_law_590 ⟨show (cells + 1) + 0 ≤ 601024 by omega, show (slots + 6) + 0 ≤ 7293000 by omega⟩) hS (fun q _ h => hFc q h) hFc (fun u t H1 locs ht hvm hw hB hz1 hk1 hS => ?_)
  obtain ⟨um4, e_u⟩ : ∃ z, z = u := ⟨_, rfl⟩
  subst e_u
  obtain ⟨hP1, hK1, hD1⟩ := hB
  rw [ht] at hP1
  have hJ := va_join (wr := wG ga gl go cA n ua1 uL2 uo3) (w1 := w_md gm cA um4) hP hD [41, 42, 43, 44, 45, 46, 47, 48, 49, 50, 51, 52, 53, 54, 55, 56] [0, 1, 2, 3, 4, 5, 6, 7, 8, 9, 10, 11, 12, 13, 14, 15, 16, 17, 18, 19, 20, 21, 22, 23, 24, 25, 26, 27, 28, 29, 30, 31, 32, 33, 34, 35, 36, 37, 38, 39, 40] rfl rfl (by decide) (by decide) hk1 hFc hP1 hD1
  have hP : va_P (dC, dI) vwCl (wLaw ga gl go gm cA n ua1 uL2 uo3 um4) H1 := hJ.1.sub [0, 1, 2, 3, 4, 5, 6, 7, 8, 9, 10, 11, 12, 13, 14, 15, 16, 17, 18, 19, 20, 21, 22, 23, 24, 25, 26, 27, 28, 29, 30, 31, 32, 33, 34, 35, 36, 37, 38, 39, 40, 41, 42, 43, 44, 45, 46, 47, 48, 49, 50, 51, 52, 53, 54, 55, 56] rfl
  have hD : va_D A (wLaw ga gl go gm cA n ua1 uL2 uo3 um4) := hJ.2.sub [0, 1, 2, 3, 4, 5, 6, 7, 8, 9, 10, 11, 12, 13, 14, 15, 16, 17, 18, 19, 20, 21, 22, 23, 24, 25, 26, 27, 28, 29, 30, 31, 32, 33, 34, 35, 36, 37, 38, 39, 40, 41, 42, 43, 44, 45, 46, 47, 48, 49, 50, 51, 52, 53, 54, 55, 56] (by decide) rfl
  clear hP1 hD1 hK1 hk1 hz1 hFc hDc hPc ht hJ
  generalize H1 = H at hP hS ⊢
  refine lv_aload_n hx hb dL_law_593 rfl (lv_at hl 3 rfl) ?_
  have hPc := hP.sub (ws' := (w_md gm cA um4)) [41, 42, 43, 44, 45, 46, 47, 48, 49, 50, 51, 52, 53, 54, 55, 56] rfl
  refine vp_callSi (va_Run.run (va_runV (As := []) (rest := []) ⟨hx, hb, hml, hown, hts⟩ (c_X4_thrown l dC dI cA gm um4 _ hw) (gcV 0 hts m602 m599 m600 m601 m24 rfl rfl (by decide +kernel) ⟨Nat.le_of_ble_eq_true rfl, Nat.le_of_ble_eq_true rfl⟩) ⟨xbl1, va_recv hK hPc (ci := 3) (q0 := 0) rfl rfl, fun U hU hW => ⟨rfl, by rw [hU]; exact hPc, va_K.moved hW.alike hK⟩⟩ rfl rfl hl.1 rfl (lv_room (Nat.le_of_ble_eq_true rfl)) dL_law_594 ⟨show (cells + 1 + 0) + 0 ≤ 601024 by omega, show (slots + 6 + 0) + 0 ≤ 7293000 by omega⟩)) (fun tt hw => ?_)
  clear hPc
  refine lv_iload hx hb dL_law_597 (lv_at hl 0 rfl) ?_
  refine lv_icmp_eq (tgt := 604) hx hb dL_law_599 (by decide) (fun c1 => ?_) (fun c1 => absurd (And.left hw) c1)
  replace hw := And.right hw
  refine lv_goto (tgt := 1231) hx hb dL_law_604 (by decide) ?_
  exact hnext _ _ _ _ hw _ _ (by omega) (by omega) _ _ _ hP hD hS (lv_sub hl [1, 2, 3, 4, 5] rfl)
def wp_case_cover (L : Nat) (xs : Nat → Int32) (n : Nat) (NX : (Nat → Nat → Int32) → (Nat → Nat → Nat → Int32) → (Nat → Int64) → (Nat → Nat → Int32) → Prop) (x4 : Int32) (ua : Nat → Nat → Int32) (uL : Nat → Nat → Nat → Int32) (uo : Nat → Int64) (um : Nat → Nat → Int32) : Prop :=
  (vp_in (x4 + 1) L ∧ (vp_in (x4 + 2) L ∧ (vp_in (x4 + 3) L ∧ (wp_L_cover n ua uL uo (xs (x4 + 1).toNatClampNeg) (xs (x4 + 2).toNatClampNeg) (xs (x4 + 3).toNatClampNeg) (fun k5 ua1 uL2 uo3 => wp_X4_cover um (xs (x4 + 1).toNatClampNeg) (xs (x4 + 2).toNatClampNeg) (xs (x4 + 3).toNatClampNeg) (fun um4 => wp_X4_thrown um4 (fun tt => (tt = k5 ∧ NX ua1 uL2 uo3 um4))))))))
set_option maxHeartbeats 4000000 in
set_option maxRecDepth 100000 in
theorem law_cover {p : Program} {l : Launch} {e : Env} {s : State} {m : MethodId} {below : List Frame} {meth : Method} {c : Code} {dC : Nat → ClassId} {dI : Nat → Nat → Nat} {cA : Nat → ClassId} {sa : Nat → Nat} {b L : Nat} {xs : Nat → Int32} {ga : Nat → Nat} {gl : Nat → Nat → Nat} {go : Nat} {gm : Nat → Nat} {n : Nat} {A : Nat → Prop} {NX : (Nat → Nat → Int32) → (Nat → Nat → Nat → Int32) → (Nat → Int64) → (Nat → Nat → Int32) → Prop} {x4 : Int32} {cM sM : Nat} (C0 : lCx p l s m meth c dC dI cA sa b L xs A) (hnext : ∀ (ua : Nat → Nat → Int32) (uL : Nat → Nat → Nat → Int32) (uo : Nat → Int64) (um : Nat → Nat → Int32), NX ua uL uo um → ∀ (cells slots : Nat), cells ≤ cM → slots ≤ sM → ∀ (H : Heap) (locs : List Loc) (ls : Array Slot), va_P (dC, dI) vwCl (wLaw ga gl go gm cA n ua uL uo um) H → va_D A (wLaw ga gl go gm cA n ua uL uo um) → va_S A s.heap H locs → lv_has ls 7 [(0, .ref b), (1, .ref (ga 0)), (2, .ref (gm 0)), (3, .ref go), (4, .int x4)] → W p l e room_1 s m #[Value.ref b] below meth c H locs cells slots (lw_Z below #[Value.ref b] s) (F0 m 1231 ls []))
    (ua : Nat → Nat → Int32) (uL : Nat → Nat → Nat → Int32) (uo : Nat → Int64) (um : Nat → Nat → Int32) {ls : Array Slot} {H : Heap} {locs : List Loc} (cells slots : Nat) (hc9 : cells + 3 ≤ cM) (hs9 : slots + 18 ≤ sM) (hcM : cM ≤ 601024) (hsM : sM ≤ 7293000) (hw : wp_case_cover L xs n NX x4 ua uL uo um) (hP : va_P (dC, dI) vwCl (wLaw ga gl go gm cA n ua uL uo um) H) (hD : va_D A (wLaw ga gl go gm cA n ua uL uo um)) (hS : va_S A s.heap H locs) (hl : lv_has ls 7 [(0, .ref b), (1, .ref (ga 0)), (2, .ref (gm 0)), (3, .ref go), (4, .int x4)]) : W p l e room_1 s m #[Value.ref b] below meth c H locs cells slots (lw_Z below #[Value.ref b] s) (F0 m 607 ls []) := by
  obtain ⟨hx, hb, hml, hown, hts, hX, hbl, hbA, hA, hK, hE, hN1, hN2, hN3, hl0⟩ := C0
  refine lv_aload_n hx hb dL_law_607 rfl (lv_at hl 1 rfl) ?_
  refine lv_aload_n hx hb dL_law_608 rfl (lv_at hl 0 rfl) ?_
  refine lv_iload hx hb dL_law_609 (lv_at hl 4 rfl) ?_
  refine lv_iconst (v := 1) hx hb dL_law_611 (by decide) ?_
  refine lv_iadd hx hb dL_law_612 ?_
  have hv0 := And.left hw
  replace hw := And.right hw
  refine va_sld hx hb hX hbl hbA hS hv0 dL_law_613 ?_
  refine lv_aload_n hx hb dL_law_614 rfl (lv_at hl 0 rfl) ?_
  refine lv_iload hx hb dL_law_615 (lv_at hl 4 rfl) ?_
  refine lv_iconst (v := 2) hx hb dL_law_617 (by decide) ?_
  refine lv_iadd hx hb dL_law_618 ?_
  have hv1 := And.left hw
  replace hw := And.right hw
  refine va_sld hx hb hX hbl hbA hS hv1 dL_law_619 ?_
  refine lv_aload_n hx hb dL_law_620 rfl (lv_at hl 0 rfl) ?_
  refine lv_iload hx hb dL_law_621 (lv_at hl 4 rfl) ?_
  refine lv_iconst (v := 3) hx hb dL_law_623 (by decide) ?_
  refine lv_iadd hx hb dL_law_624 ?_
  have hv2 := And.left hw
  replace hw := And.right hw
  refine va_sld hx hb hX hbl hbA hS hv2 dL_law_625 ?_
  have hPc := hP.sub (ws' := (wG ga gl go cA n ua uL uo)) [0, 1, 2, 3, 4, 5, 6, 7, 8, 9, 10, 11, 12, 13, 14, 15, 16, 17, 18, 19, 20, 21, 22, 23, 24, 25, 26, 27, 28, 29, 30, 31, 32, 33, 34, 35, 36, 37, 38, 39, 40] rfl
  have hDc := hD.sub (ws' := (wG ga gl go cA n ua uL uo)) [0, 1, 2, 3, 4, 5, 6, 7, 8, 9, 10, 11, 12, 13, 14, 15, 16, 17, 18, 19, 20, 21, 22, 23, 24, 25, 26, 27, 28, 29, 30, 31, 32, 33, 34, 35, 36, 37, 38, 39, 40] (by decide) rfl
  have hFc := va_free (wc := (wG ga gl go cA n ua uL uo)) hD hS hA [0, 1, 2, 3, 4, 5, 6, 7, 8, 9, 10, 11, 12, 13, 14, 15, 16, 17, 18, 19, 20, 21, 22, 23, 24, 25, 26, 27, 28, 29, 30, 31, 32, 33, 34, 35, 36, 37, 38, 39, 40] rfl
  refine va_calli (vx_runSW (As := [.ref (ga 0), .int (xs (x4 + 1).toNatClampNeg), .int (xs (x4 + 2).toNatClampNeg), .int (xs (x4 + 3).toNatClampNeg)]) (rest := []) ⟨hx, hb, hml, hown, hts⟩ (c_L_cover l hl0 dC dI cA sa ga gl go n _ ua uL uo (xs (x4 + 1).toNatClampNeg) (xs (x4 + 2).toNatClampNeg) (xs (x4 + 3).toNatClampNeg) _ hw) (gcSW 4 hts (fun w h => xm h) m452 m450 m451 m20 rfl rfl (by decide +kernel) ⟨Nat.le_of_ble_eq_true rfl, Nat.le_of_ble_eq_true rfl⟩) ⟨xbl2w, fun U hU hW => ⟨rfl, by rw [hU], by rw [hU]; exact hPc, va_K.moved hW.alike hK, hDc.weaken (fun _ _ _ _ => trivial), xEmvA hE hW hS hU, va_Nc.moved hW.alike hN1, va_Nc.moved hW.alike hN2, va_Nc.moved hW.alike hN3⟩⟩ rfl rfl hl.1 rfl (lv_room (Nat.le_of_ble_eq_true rfl)) dL_law_626 ⟨show (cells) + 2 ≤ 601024 by omega, show (slots) + 12 ≤ 7293000 by omega⟩) hS (fun q _ h => hFc q h) hFc (fun k5 u t H1 locs ht hvm hw hB hz1 hk1 hS => ?_)
  obtain ⟨ua1, uL2, uo3⟩ := u
  obtain ⟨hP1, hK1, hD1⟩ := hB
  rw [ht] at hP1
  dsimp only at hw
  have hJ := va_join (wr := w_md gm cA um) (w1 := wG ga gl go cA n ua1 uL2 uo3) hP hD [0, 1, 2, 3, 4, 5, 6, 7, 8, 9, 10, 11, 12, 13, 14, 15, 16, 17, 18, 19, 20, 21, 22, 23, 24, 25, 26, 27, 28, 29, 30, 31, 32, 33, 34, 35, 36, 37, 38, 39, 40] [41, 42, 43, 44, 45, 46, 47, 48, 49, 50, 51, 52, 53, 54, 55, 56] rfl rfl (by decide) (by decide) hk1 hFc hP1 hD1
  have hP : va_P (dC, dI) vwCl (wLaw ga gl go gm cA n ua1 uL2 uo3 um) H1 := hJ.1.sub [16, 17, 18, 19, 20, 21, 22, 23, 24, 25, 26, 27, 28, 29, 30, 31, 32, 33, 34, 35, 36, 37, 38, 39, 40, 41, 42, 43, 44, 45, 46, 47, 48, 49, 50, 51, 52, 53, 54, 55, 56, 0, 1, 2, 3, 4, 5, 6, 7, 8, 9, 10, 11, 12, 13, 14, 15] rfl
  have hD : va_D A (wLaw ga gl go gm cA n ua1 uL2 uo3 um) := hJ.2.sub [16, 17, 18, 19, 20, 21, 22, 23, 24, 25, 26, 27, 28, 29, 30, 31, 32, 33, 34, 35, 36, 37, 38, 39, 40, 41, 42, 43, 44, 45, 46, 47, 48, 49, 50, 51, 52, 53, 54, 55, 56, 0, 1, 2, 3, 4, 5, 6, 7, 8, 9, 10, 11, 12, 13, 14, 15] (by decide) rfl
  clear hP1 hD1 hK1 hk1 hz1 hFc hDc hPc ht hJ
  generalize H1 = H at hP hS ⊢
  refine lv_istore (lv' := [(5, .int k5), (0, .ref b), (1, .ref (ga 0)), (2, .ref (gm 0)), (3, .ref go), (4, .int x4)]) hx hb dL_law_629 hl (by decide) rfl (fun ls hl => ?_)
  refine lv_aload_n hx hb dL_law_631 rfl (lv_at hl 3 rfl) ?_
  refine lv_aload_n hx hb dL_law_632 rfl (lv_at hl 1 rfl) ?_
  refine lv_iload hx hb dL_law_633 (lv_at hl 5 rfl) ?_
  refine lv_iconst (v := 1) hx hb dL_law_635 (by decide) ?_
  refine lv_iadd hx hb dL_law_636 ?_
  refine va_sld hx hb hX hbl hbA hS hv0 dL_law_637 ?_
  refine lv_aload_n hx hb dL_law_638 rfl (lv_at hl 1 rfl) ?_
  refine lv_iload hx hb dL_law_639 (lv_at hl 5 rfl) ?_
  refine lv_iconst (v := 2) hx hb dL_law_641 (by decide) ?_
  refine lv_iadd hx hb dL_law_642 ?_
  refine va_sld hx hb hX hbl hbA hS hv1 dL_law_643 ?_
  refine lv_aload_n hx hb dL_law_644 rfl (lv_at hl 1 rfl) ?_
  refine lv_iload hx hb dL_law_645 (lv_at hl 5 rfl) ?_
  refine lv_iconst (v := 3) hx hb dL_law_647 (by decide) ?_
  refine lv_iadd hx hb dL_law_648 ?_
  refine va_sld hx hb hX hbl hbA hS hv2 dL_law_649 ?_
  have hPc := hP.sub (ws' := (w_md gm cA um)) [41, 42, 43, 44, 45, 46, 47, 48, 49, 50, 51, 52, 53, 54, 55, 56] rfl
  have hDc := hD.sub (ws' := (w_md gm cA um)) [41, 42, 43, 44, 45, 46, 47, 48, 49, 50, 51, 52, 53, 54, 55, 56] (by decide) rfl
  have hFc := va_free (wc := (w_md gm cA um)) hD hS hA [41, 42, 43, 44, 45, 46, 47, 48, 49, 50, 51, 52, 53, 54, 55, 56] rfl
  refine va_callv (va_runV (As := [.int (xs (x4 + 1).toNatClampNeg), .int (xs (x4 + 2).toNatClampNeg), .int (xs (x4 + 3).toNatClampNeg)]) (rest := []) ⟨hx, hb, hml, hown, hts⟩ (c_X4_cover l dC dI cA gm _ um (xs (x4 + 1).toNatClampNeg) (xs (x4 + 2).toNatClampNeg) (xs (x4 + 3).toNatClampNeg) _ hw) (gcV 3 hts m717 m714 m715 m716 m24 rfl rfl (by decide +kernel) ⟨Nat.le_of_ble_eq_true rfl, Nat.le_of_ble_eq_true rfl⟩) ⟨xbl2, va_recv hK hPc (ci := 3) (q0 := 0) rfl rfl, fun U hU hW => ⟨rfl, by rw [hU], by rw [hU]; exact hPc, va_K.moved hW.alike hK, hDc.weaken (fun _ _ _ _ => trivial)⟩⟩ rfl rfl hl.1 rfl (lv_room (Nat.le_of_ble_eq_true rfl)) dL_law_650 ⟨show (cells + 2) + 0 ≤ 601024 by omega, show (slots + 12) + 0 ≤ 7293000 by omega⟩) hS (fun q _ h => hFc q h) hFc (fun u t H1 locs ht hvm hw hB hz1 hk1 hS => ?_)
  obtain ⟨um4, e_u⟩ : ∃ z, z = u := ⟨_, rfl⟩
  subst e_u
  obtain ⟨hP1, hK1, hD1⟩ := hB
  rw [ht] at hP1
  have hJ := va_join (wr := wG ga gl go cA n ua1 uL2 uo3) (w1 := w_md gm cA um4) hP hD [41, 42, 43, 44, 45, 46, 47, 48, 49, 50, 51, 52, 53, 54, 55, 56] [0, 1, 2, 3, 4, 5, 6, 7, 8, 9, 10, 11, 12, 13, 14, 15, 16, 17, 18, 19, 20, 21, 22, 23, 24, 25, 26, 27, 28, 29, 30, 31, 32, 33, 34, 35, 36, 37, 38, 39, 40] rfl rfl (by decide) (by decide) hk1 hFc hP1 hD1
  have hP : va_P (dC, dI) vwCl (wLaw ga gl go gm cA n ua1 uL2 uo3 um4) H1 := hJ.1.sub [0, 1, 2, 3, 4, 5, 6, 7, 8, 9, 10, 11, 12, 13, 14, 15, 16, 17, 18, 19, 20, 21, 22, 23, 24, 25, 26, 27, 28, 29, 30, 31, 32, 33, 34, 35, 36, 37, 38, 39, 40, 41, 42, 43, 44, 45, 46, 47, 48, 49, 50, 51, 52, 53, 54, 55, 56] rfl
  have hD : va_D A (wLaw ga gl go gm cA n ua1 uL2 uo3 um4) := hJ.2.sub [0, 1, 2, 3, 4, 5, 6, 7, 8, 9, 10, 11, 12, 13, 14, 15, 16, 17, 18, 19, 20, 21, 22, 23, 24, 25, 26, 27, 28, 29, 30, 31, 32, 33, 34, 35, 36, 37, 38, 39, 40, 41, 42, 43, 44, 45, 46, 47, 48, 49, 50, 51, 52, 53, 54, 55, 56] (by decide) rfl
  clear hP1 hD1 hK1 hk1 hz1 hFc hDc hPc ht hJ
  generalize H1 = H at hP hS ⊢
  refine lv_aload_n hx hb dL_law_653 rfl (lv_at hl 3 rfl) ?_
  have hPc := hP.sub (ws' := (w_md gm cA um4)) [41, 42, 43, 44, 45, 46, 47, 48, 49, 50, 51, 52, 53, 54, 55, 56] rfl
  refine vp_callSi (va_Run.run (va_runV (As := []) (rest := []) ⟨hx, hb, hml, hown, hts⟩ (c_X4_thrown l dC dI cA gm um4 _ hw) (gcV 0 hts m602 m599 m600 m601 m24 rfl rfl (by decide +kernel) ⟨Nat.le_of_ble_eq_true rfl, Nat.le_of_ble_eq_true rfl⟩) ⟨xbl1, va_recv hK hPc (ci := 3) (q0 := 0) rfl rfl, fun U hU hW => ⟨rfl, by rw [hU]; exact hPc, va_K.moved hW.alike hK⟩⟩ rfl rfl hl.1 rfl (lv_room (Nat.le_of_ble_eq_true rfl)) dL_law_654 ⟨show (cells + 2 + 0) + 0 ≤ 601024 by omega, show (slots + 12 + 0) + 0 ≤ 7293000 by omega⟩)) (fun tt hw => ?_)
  clear hPc
  refine lv_iload hx hb dL_law_657 (lv_at hl 0 rfl) ?_
  refine lv_icmp_eq (tgt := 664) hx hb dL_law_659 (by decide) (fun c1 => ?_) (fun c1 => absurd (And.left hw) c1)
  replace hw := And.right hw
  refine lv_goto (tgt := 1231) hx hb dL_law_664 (by decide) ?_
  exact hnext _ _ _ _ hw _ _ (by omega) (by omega) _ _ _ hP hD hS (lv_sub hl [1, 2, 3, 4, 5] rfl)
def wp_case_fill (L : Nat) (xs : Nat → Int32) (n : Nat) (NX : (Nat → Nat → Int32) → (Nat → Nat → Nat → Int32) → (Nat → Int64) → (Nat → Nat → Int32) → Prop) (x4 : Int32) (ua : Nat → Nat → Int32) (uL : Nat → Nat → Nat → Int32) (uo : Nat → Int64) (um : Nat → Nat → Int32) : Prop :=
  (vp_in (x4 + 1) L ∧ (vp_in (x4 + 2) L ∧ (vp_in (x4 + 3) L ∧ (vp_in (x4 + 4) L ∧ (vp_in (x4 + 5) L ∧ (wp_L_fill n ua uL uo (xs (x4 + 1).toNatClampNeg) (xs (x4 + 2).toNatClampNeg) (xs (x4 + 3).toNatClampNeg) (xs (x4 + 4).toNatClampNeg) (xs (x4 + 5).toNatClampNeg) (fun k5 ua1 uL2 uo3 => wp_X4_fill um (xs (x4 + 1).toNatClampNeg) (xs (x4 + 2).toNatClampNeg) (xs (x4 + 3).toNatClampNeg) (xs (x4 + 4).toNatClampNeg) (xs (x4 + 5).toNatClampNeg) (fun um4 => wp_X4_thrown um4 (fun tt => (tt = k5 ∧ NX ua1 uL2 uo3 um4))))))))))
set_option maxHeartbeats 4000000 in
set_option maxRecDepth 100000 in
theorem law_fill {p : Program} {l : Launch} {e : Env} {s : State} {m : MethodId} {below : List Frame} {meth : Method} {c : Code} {dC : Nat → ClassId} {dI : Nat → Nat → Nat} {cA : Nat → ClassId} {sa : Nat → Nat} {b L : Nat} {xs : Nat → Int32} {ga : Nat → Nat} {gl : Nat → Nat → Nat} {go : Nat} {gm : Nat → Nat} {n : Nat} {A : Nat → Prop} {NX : (Nat → Nat → Int32) → (Nat → Nat → Nat → Int32) → (Nat → Int64) → (Nat → Nat → Int32) → Prop} {x4 : Int32} {cM sM : Nat} (C0 : lCx p l s m meth c dC dI cA sa b L xs A) (hnext : ∀ (ua : Nat → Nat → Int32) (uL : Nat → Nat → Nat → Int32) (uo : Nat → Int64) (um : Nat → Nat → Int32), NX ua uL uo um → ∀ (cells slots : Nat), cells ≤ cM → slots ≤ sM → ∀ (H : Heap) (locs : List Loc) (ls : Array Slot), va_P (dC, dI) vwCl (wLaw ga gl go gm cA n ua uL uo um) H → va_D A (wLaw ga gl go gm cA n ua uL uo um) → va_S A s.heap H locs → lv_has ls 7 [(0, .ref b), (1, .ref (ga 0)), (2, .ref (gm 0)), (3, .ref go), (4, .int x4)] → W p l e room_1 s m #[Value.ref b] below meth c H locs cells slots (lw_Z below #[Value.ref b] s) (F0 m 1231 ls []))
    (ua : Nat → Nat → Int32) (uL : Nat → Nat → Nat → Int32) (uo : Nat → Int64) (um : Nat → Nat → Int32) {ls : Array Slot} {H : Heap} {locs : List Loc} (cells slots : Nat) (hc9 : cells + 3 ≤ cM) (hs9 : slots + 18 ≤ sM) (hcM : cM ≤ 601024) (hsM : sM ≤ 7293000) (hw : wp_case_fill L xs n NX x4 ua uL uo um) (hP : va_P (dC, dI) vwCl (wLaw ga gl go gm cA n ua uL uo um) H) (hD : va_D A (wLaw ga gl go gm cA n ua uL uo um)) (hS : va_S A s.heap H locs) (hl : lv_has ls 7 [(0, .ref b), (1, .ref (ga 0)), (2, .ref (gm 0)), (3, .ref go), (4, .int x4)]) : W p l e room_1 s m #[Value.ref b] below meth c H locs cells slots (lw_Z below #[Value.ref b] s) (F0 m 667 ls []) := by
  obtain ⟨hx, hb, hml, hown, hts, hX, hbl, hbA, hA, hK, hE, hN1, hN2, hN3, hl0⟩ := C0
  refine lv_aload_n hx hb dL_law_667 rfl (lv_at hl 1 rfl) ?_
  refine lv_aload_n hx hb dL_law_668 rfl (lv_at hl 0 rfl) ?_
  refine lv_iload hx hb dL_law_669 (lv_at hl 4 rfl) ?_
  refine lv_iconst (v := 1) hx hb dL_law_671 (by decide) ?_
  refine lv_iadd hx hb dL_law_672 ?_
  have hv0 := And.left hw
  replace hw := And.right hw
  refine va_sld hx hb hX hbl hbA hS hv0 dL_law_673 ?_
  refine lv_aload_n hx hb dL_law_674 rfl (lv_at hl 0 rfl) ?_
  refine lv_iload hx hb dL_law_675 (lv_at hl 4 rfl) ?_
  refine lv_iconst (v := 2) hx hb dL_law_677 (by decide) ?_
  refine lv_iadd hx hb dL_law_678 ?_
  have hv1 := And.left hw
  replace hw := And.right hw
  refine va_sld hx hb hX hbl hbA hS hv1 dL_law_679 ?_
  refine lv_aload_n hx hb dL_law_680 rfl (lv_at hl 0 rfl) ?_
  refine lv_iload hx hb dL_law_681 (lv_at hl 4 rfl) ?_
  refine lv_iconst (v := 3) hx hb dL_law_683 (by decide) ?_
  refine lv_iadd hx hb dL_law_684 ?_
  have hv2 := And.left hw
  replace hw := And.right hw
  refine va_sld hx hb hX hbl hbA hS hv2 dL_law_685 ?_
  refine lv_aload_n hx hb dL_law_686 rfl (lv_at hl 0 rfl) ?_
  refine lv_iload hx hb dL_law_687 (lv_at hl 4 rfl) ?_
  refine lv_iconst (v := 4) hx hb dL_law_689 (by decide) ?_
  refine lv_iadd hx hb dL_law_690 ?_
  have hv3 := And.left hw
  replace hw := And.right hw
  refine va_sld hx hb hX hbl hbA hS hv3 dL_law_691 ?_
  refine lv_aload_n hx hb dL_law_692 rfl (lv_at hl 0 rfl) ?_
  refine lv_iload hx hb dL_law_693 (lv_at hl 4 rfl) ?_
  refine lv_iconst (v := 5) hx hb dL_law_695 (by decide) ?_
  refine lv_iadd hx hb dL_law_696 ?_
  have hv4 := And.left hw
  replace hw := And.right hw
  refine va_sld hx hb hX hbl hbA hS hv4 dL_law_697 ?_
  have hPc := hP.sub (ws' := (wG ga gl go cA n ua uL uo)) [0, 1, 2, 3, 4, 5, 6, 7, 8, 9, 10, 11, 12, 13, 14, 15, 16, 17, 18, 19, 20, 21, 22, 23, 24, 25, 26, 27, 28, 29, 30, 31, 32, 33, 34, 35, 36, 37, 38, 39, 40] rfl
  have hDc := hD.sub (ws' := (wG ga gl go cA n ua uL uo)) [0, 1, 2, 3, 4, 5, 6, 7, 8, 9, 10, 11, 12, 13, 14, 15, 16, 17, 18, 19, 20, 21, 22, 23, 24, 25, 26, 27, 28, 29, 30, 31, 32, 33, 34, 35, 36, 37, 38, 39, 40] (by decide) rfl
  have hFc := va_free (wc := (wG ga gl go cA n ua uL uo)) hD hS hA [0, 1, 2, 3, 4, 5, 6, 7, 8, 9, 10, 11, 12, 13, 14, 15, 16, 17, 18, 19, 20, 21, 22, 23, 24, 25, 26, 27, 28, 29, 30, 31, 32, 33, 34, 35, 36, 37, 38, 39, 40] rfl
  refine va_calli (vx_runSW (As := [.ref (ga 0), .int (xs (x4 + 1).toNatClampNeg), .int (xs (x4 + 2).toNatClampNeg), .int (xs (x4 + 3).toNatClampNeg), .int (xs (x4 + 4).toNatClampNeg), .int (xs (x4 + 5).toNatClampNeg)]) (rest := []) ⟨hx, hb, hml, hown, hts⟩ (c_L_fill l hl0 dC dI cA sa ga gl go n _ ua uL uo (xs (x4 + 1).toNatClampNeg) (xs (x4 + 2).toNatClampNeg) (xs (x4 + 3).toNatClampNeg) (xs (x4 + 4).toNatClampNeg) (xs (x4 + 5).toNatClampNeg) _ hw) (gcSW 6 hts (fun w h => xm h) m464 m462 m463 m20 rfl rfl (by decide +kernel) ⟨Nat.le_of_ble_eq_true rfl, Nat.le_of_ble_eq_true rfl⟩) ⟨xbl2w, fun U hU hW => ⟨rfl, by rw [hU], by rw [hU]; exact hPc, va_K.moved hW.alike hK, hDc.weaken (fun _ _ _ _ => trivial), xEmvA hE hW hS hU, va_Nc.moved hW.alike hN1, va_Nc.moved hW.alike hN2, va_Nc.moved hW.alike hN3⟩⟩ rfl rfl hl.1 rfl (lv_room (Nat.le_of_ble_eq_true rfl)) dL_law_698 ⟨show (cells) + 1 ≤ 601024 by omega, show (slots) + 6 ≤ 7293000 by omega⟩) hS (fun q _ h => hFc q h) hFc (fun k5 u t H1 locs ht hvm hw hB hz1 hk1 hS => ?_)
  obtain ⟨ua1, uL2, uo3⟩ := u
  obtain ⟨hP1, hK1, hD1⟩ := hB
  rw [ht] at hP1
  dsimp only at hw
  have hJ := va_join (wr := w_md gm cA um) (w1 := wG ga gl go cA n ua1 uL2 uo3) hP hD [0, 1, 2, 3, 4, 5, 6, 7, 8, 9, 10, 11, 12, 13, 14, 15, 16, 17, 18, 19, 20, 21, 22, 23, 24, 25, 26, 27, 28, 29, 30, 31, 32, 33, 34, 35, 36, 37, 38, 39, 40] [41, 42, 43, 44, 45, 46, 47, 48, 49, 50, 51, 52, 53, 54, 55, 56] rfl rfl (by decide) (by decide) hk1 hFc hP1 hD1
  have hP : va_P (dC, dI) vwCl (wLaw ga gl go gm cA n ua1 uL2 uo3 um) H1 := hJ.1.sub [16, 17, 18, 19, 20, 21, 22, 23, 24, 25, 26, 27, 28, 29, 30, 31, 32, 33, 34, 35, 36, 37, 38, 39, 40, 41, 42, 43, 44, 45, 46, 47, 48, 49, 50, 51, 52, 53, 54, 55, 56, 0, 1, 2, 3, 4, 5, 6, 7, 8, 9, 10, 11, 12, 13, 14, 15] rfl
  have hD : va_D A (wLaw ga gl go gm cA n ua1 uL2 uo3 um) := hJ.2.sub [16, 17, 18, 19, 20, 21, 22, 23, 24, 25, 26, 27, 28, 29, 30, 31, 32, 33, 34, 35, 36, 37, 38, 39, 40, 41, 42, 43, 44, 45, 46, 47, 48, 49, 50, 51, 52, 53, 54, 55, 56, 0, 1, 2, 3, 4, 5, 6, 7, 8, 9, 10, 11, 12, 13, 14, 15] (by decide) rfl
  clear hP1 hD1 hK1 hk1 hz1 hFc hDc hPc ht hJ
  generalize H1 = H at hP hS ⊢
  refine lv_istore (lv' := [(5, .int k5), (0, .ref b), (1, .ref (ga 0)), (2, .ref (gm 0)), (3, .ref go), (4, .int x4)]) hx hb dL_law_701 hl (by decide) rfl (fun ls hl => ?_)
  refine lv_aload_n hx hb dL_law_703 rfl (lv_at hl 3 rfl) ?_
  refine lv_aload_n hx hb dL_law_704 rfl (lv_at hl 1 rfl) ?_
  refine lv_iload hx hb dL_law_705 (lv_at hl 5 rfl) ?_
  refine lv_iconst (v := 1) hx hb dL_law_707 (by decide) ?_
  refine lv_iadd hx hb dL_law_708 ?_
  refine va_sld hx hb hX hbl hbA hS hv0 dL_law_709 ?_
  refine lv_aload_n hx hb dL_law_710 rfl (lv_at hl 1 rfl) ?_
  refine lv_iload hx hb dL_law_711 (lv_at hl 5 rfl) ?_
  refine lv_iconst (v := 2) hx hb dL_law_713 (by decide) ?_
  refine lv_iadd hx hb dL_law_714 ?_
  refine va_sld hx hb hX hbl hbA hS hv1 dL_law_715 ?_
  refine lv_aload_n hx hb dL_law_716 rfl (lv_at hl 1 rfl) ?_
  refine lv_iload hx hb dL_law_717 (lv_at hl 5 rfl) ?_
  refine lv_iconst (v := 3) hx hb dL_law_719 (by decide) ?_
  refine lv_iadd hx hb dL_law_720 ?_
  refine va_sld hx hb hX hbl hbA hS hv2 dL_law_721 ?_
  refine lv_aload_n hx hb dL_law_722 rfl (lv_at hl 1 rfl) ?_
  refine lv_iload hx hb dL_law_723 (lv_at hl 5 rfl) ?_
  refine lv_iconst (v := 4) hx hb dL_law_725 (by decide) ?_
  refine lv_iadd hx hb dL_law_726 ?_
  refine va_sld hx hb hX hbl hbA hS hv3 dL_law_727 ?_
  refine lv_aload_n hx hb dL_law_728 rfl (lv_at hl 1 rfl) ?_
  refine lv_iload hx hb dL_law_729 (lv_at hl 5 rfl) ?_
  refine lv_iconst (v := 5) hx hb dL_law_731 (by decide) ?_
  refine lv_iadd hx hb dL_law_732 ?_
  refine va_sld hx hb hX hbl hbA hS hv4 dL_law_733 ?_
  have hPc := hP.sub (ws' := (w_md gm cA um)) [41, 42, 43, 44, 45, 46, 47, 48, 49, 50, 51, 52, 53, 54, 55, 56] rfl
  have hDc := hD.sub (ws' := (w_md gm cA um)) [41, 42, 43, 44, 45, 46, 47, 48, 49, 50, 51, 52, 53, 54, 55, 56] (by decide) rfl
  have hFc := va_free (wc := (w_md gm cA um)) hD hS hA [41, 42, 43, 44, 45, 46, 47, 48, 49, 50, 51, 52, 53, 54, 55, 56] rfl
  refine va_callv (va_runV (As := [.int (xs (x4 + 1).toNatClampNeg), .int (xs (x4 + 2).toNatClampNeg), .int (xs (x4 + 3).toNatClampNeg), .int (xs (x4 + 4).toNatClampNeg), .int (xs (x4 + 5).toNatClampNeg)]) (rest := []) ⟨hx, hb, hml, hown, hts⟩ (c_X4_fill l dC dI cA gm _ um (xs (x4 + 1).toNatClampNeg) (xs (x4 + 2).toNatClampNeg) (xs (x4 + 3).toNatClampNeg) (xs (x4 + 4).toNatClampNeg) (xs (x4 + 5).toNatClampNeg) _ hw) (gcV 5 hts m725 m722 m723 m724 m24 rfl rfl (by decide +kernel) ⟨Nat.le_of_ble_eq_true rfl, Nat.le_of_ble_eq_true rfl⟩) ⟨xbl2, va_recv hK hPc (ci := 3) (q0 := 0) rfl rfl, fun U hU hW => ⟨rfl, by rw [hU], by rw [hU]; exact hPc, va_K.moved hW.alike hK, hDc.weaken (fun _ _ _ _ => trivial)⟩⟩ rfl rfl hl.1 rfl (lv_room (Nat.le_of_ble_eq_true rfl)) dL_law_734 ⟨show (cells + 1) + 0 ≤ 601024 by omega, show (slots + 6) + 0 ≤ 7293000 by omega⟩) hS (fun q _ h => hFc q h) hFc (fun u t H1 locs ht hvm hw hB hz1 hk1 hS => ?_)
  obtain ⟨um4, e_u⟩ : ∃ z, z = u := ⟨_, rfl⟩
  subst e_u
  obtain ⟨hP1, hK1, hD1⟩ := hB
  rw [ht] at hP1
  have hJ := va_join (wr := wG ga gl go cA n ua1 uL2 uo3) (w1 := w_md gm cA um4) hP hD [41, 42, 43, 44, 45, 46, 47, 48, 49, 50, 51, 52, 53, 54, 55, 56] [0, 1, 2, 3, 4, 5, 6, 7, 8, 9, 10, 11, 12, 13, 14, 15, 16, 17, 18, 19, 20, 21, 22, 23, 24, 25, 26, 27, 28, 29, 30, 31, 32, 33, 34, 35, 36, 37, 38, 39, 40] rfl rfl (by decide) (by decide) hk1 hFc hP1 hD1
  have hP : va_P (dC, dI) vwCl (wLaw ga gl go gm cA n ua1 uL2 uo3 um4) H1 := hJ.1.sub [0, 1, 2, 3, 4, 5, 6, 7, 8, 9, 10, 11, 12, 13, 14, 15, 16, 17, 18, 19, 20, 21, 22, 23, 24, 25, 26, 27, 28, 29, 30, 31, 32, 33, 34, 35, 36, 37, 38, 39, 40, 41, 42, 43, 44, 45, 46, 47, 48, 49, 50, 51, 52, 53, 54, 55, 56] rfl
  have hD : va_D A (wLaw ga gl go gm cA n ua1 uL2 uo3 um4) := hJ.2.sub [0, 1, 2, 3, 4, 5, 6, 7, 8, 9, 10, 11, 12, 13, 14, 15, 16, 17, 18, 19, 20, 21, 22, 23, 24, 25, 26, 27, 28, 29, 30, 31, 32, 33, 34, 35, 36, 37, 38, 39, 40, 41, 42, 43, 44, 45, 46, 47, 48, 49, 50, 51, 52, 53, 54, 55, 56] (by decide) rfl
  clear hP1 hD1 hK1 hk1 hz1 hFc hDc hPc ht hJ
  generalize H1 = H at hP hS ⊢
  refine lv_aload_n hx hb dL_law_737 rfl (lv_at hl 3 rfl) ?_
  have hPc := hP.sub (ws' := (w_md gm cA um4)) [41, 42, 43, 44, 45, 46, 47, 48, 49, 50, 51, 52, 53, 54, 55, 56] rfl
  refine vp_callSi (va_Run.run (va_runV (As := []) (rest := []) ⟨hx, hb, hml, hown, hts⟩ (c_X4_thrown l dC dI cA gm um4 _ hw) (gcV 0 hts m602 m599 m600 m601 m24 rfl rfl (by decide +kernel) ⟨Nat.le_of_ble_eq_true rfl, Nat.le_of_ble_eq_true rfl⟩) ⟨xbl1, va_recv hK hPc (ci := 3) (q0 := 0) rfl rfl, fun U hU hW => ⟨rfl, by rw [hU]; exact hPc, va_K.moved hW.alike hK⟩⟩ rfl rfl hl.1 rfl (lv_room (Nat.le_of_ble_eq_true rfl)) dL_law_738 ⟨show (cells + 1 + 0) + 0 ≤ 601024 by omega, show (slots + 6 + 0) + 0 ≤ 7293000 by omega⟩)) (fun tt hw => ?_)
  clear hPc
  refine lv_iload hx hb dL_law_741 (lv_at hl 0 rfl) ?_
  refine lv_icmp_eq (tgt := 748) hx hb dL_law_743 (by decide) (fun c1 => ?_) (fun c1 => absurd (And.left hw) c1)
  replace hw := And.right hw
  refine lv_goto (tgt := 1231) hx hb dL_law_748 (by decide) ?_
  exact hnext _ _ _ _ hw _ _ (by omega) (by omega) _ _ _ hP hD hS (lv_sub hl [1, 2, 3, 4, 5] rfl)
def wp_case_mark (L : Nat) (xs : Nat → Int32) (n : Nat) (NX : (Nat → Nat → Int32) → (Nat → Nat → Nat → Int32) → (Nat → Int64) → (Nat → Nat → Int32) → Prop) (x4 : Int32) (ua : Nat → Nat → Int32) (uL : Nat → Nat → Nat → Int32) (uo : Nat → Int64) (um : Nat → Nat → Int32) : Prop :=
  (vp_in (x4 + 1) L ∧ (vp_in (x4 + 2) L ∧ (vp_in (x4 + 3) L ∧ (∃ k, k < 6 ∧ wp_L_mark n k ua uL uo (xs (x4 + 1).toNatClampNeg) (xs (x4 + 2).toNatClampNeg) (xs (x4 + 3).toNatClampNeg) (fun k5 ua1 uL2 uo3 => wp_X4_mark um (xs (x4 + 1).toNatClampNeg) (xs (x4 + 2).toNatClampNeg) (xs (x4 + 3).toNatClampNeg) (fun b6 um4 => wp_X4_thrown um4 (fun tt => (tt = k5 ∧ ((k5 = 0 → uo3 0 = b6.toInt64) ∧ NX ua1 uL2 uo3 um4)))))))))
set_option maxHeartbeats 4000000 in
set_option maxRecDepth 100000 in
theorem law_mark {p : Program} {l : Launch} {e : Env} {s : State} {m : MethodId} {below : List Frame} {meth : Method} {c : Code} {dC : Nat → ClassId} {dI : Nat → Nat → Nat} {cA : Nat → ClassId} {sa : Nat → Nat} {b L : Nat} {xs : Nat → Int32} {ga : Nat → Nat} {gl : Nat → Nat → Nat} {go : Nat} {gm : Nat → Nat} {n : Nat} {A : Nat → Prop} {NX : (Nat → Nat → Int32) → (Nat → Nat → Nat → Int32) → (Nat → Int64) → (Nat → Nat → Int32) → Prop} {x4 : Int32} {cM sM : Nat} (C0 : lCx p l s m meth c dC dI cA sa b L xs A) (hnext : ∀ (ua : Nat → Nat → Int32) (uL : Nat → Nat → Nat → Int32) (uo : Nat → Int64) (um : Nat → Nat → Int32), NX ua uL uo um → ∀ (cells slots : Nat), cells ≤ cM → slots ≤ sM → ∀ (H : Heap) (locs : List Loc) (ls : Array Slot), va_P (dC, dI) vwCl (wLaw ga gl go gm cA n ua uL uo um) H → va_D A (wLaw ga gl go gm cA n ua uL uo um) → va_S A s.heap H locs → lv_has ls 7 [(0, .ref b), (1, .ref (ga 0)), (2, .ref (gm 0)), (3, .ref go), (4, .int x4)] → W p l e room_1 s m #[Value.ref b] below meth c H locs cells slots (lw_Z below #[Value.ref b] s) (F0 m 1231 ls []))
    (ua : Nat → Nat → Int32) (uL : Nat → Nat → Nat → Int32) (uo : Nat → Int64) (um : Nat → Nat → Int32) {ls : Array Slot} {H : Heap} {locs : List Loc} (cells slots : Nat) (hc9 : cells + 3 ≤ cM) (hs9 : slots + 18 ≤ sM) (hcM : cM ≤ 601024) (hsM : sM ≤ 7293000) (hw : wp_case_mark L xs n NX x4 ua uL uo um) (hP : va_P (dC, dI) vwCl (wLaw ga gl go gm cA n ua uL uo um) H) (hD : va_D A (wLaw ga gl go gm cA n ua uL uo um)) (hS : va_S A s.heap H locs) (hl : lv_has ls 7 [(0, .ref b), (1, .ref (ga 0)), (2, .ref (gm 0)), (3, .ref go), (4, .int x4)]) : W p l e room_1 s m #[Value.ref b] below meth c H locs cells slots (lw_Z below #[Value.ref b] s) (F0 m 751 ls []) := by
  obtain ⟨hx, hb, hml, hown, hts, hX, hbl, hbA, hA, hK, hE, hN1, hN2, hN3, hl0⟩ := C0
  refine lv_aload_n hx hb dL_law_751 rfl (lv_at hl 1 rfl) ?_
  refine lv_aload_n hx hb dL_law_752 rfl (lv_at hl 0 rfl) ?_
  refine lv_iload hx hb dL_law_753 (lv_at hl 4 rfl) ?_
  refine lv_iconst (v := 1) hx hb dL_law_755 (by decide) ?_
  refine lv_iadd hx hb dL_law_756 ?_
  have hv0 := And.left hw
  replace hw := And.right hw
  refine va_sld hx hb hX hbl hbA hS hv0 dL_law_757 ?_
  refine lv_aload_n hx hb dL_law_758 rfl (lv_at hl 0 rfl) ?_
  refine lv_iload hx hb dL_law_759 (lv_at hl 4 rfl) ?_
  refine lv_iconst (v := 2) hx hb dL_law_761 (by decide) ?_
  refine lv_iadd hx hb dL_law_762 ?_
  have hv1 := And.left hw
  replace hw := And.right hw
  refine va_sld hx hb hX hbl hbA hS hv1 dL_law_763 ?_
  refine lv_aload_n hx hb dL_law_764 rfl (lv_at hl 0 rfl) ?_
  refine lv_iload hx hb dL_law_765 (lv_at hl 4 rfl) ?_
  refine lv_iconst (v := 3) hx hb dL_law_767 (by decide) ?_
  refine lv_iadd hx hb dL_law_768 ?_
  have hv2 := And.left hw
  replace hw := And.right hw
  refine va_sld hx hb hX hbl hbA hS hv2 dL_law_769 ?_
  refine lv_aload_n hx hb dL_law_770 rfl (lv_at hl 3 rfl) ?_
  obtain ⟨k, hk, hw⟩ := hw
  have hPc := hP.sub (ws' := (wG ga gl go cA n ua uL uo)) [0, 1, 2, 3, 4, 5, 6, 7, 8, 9, 10, 11, 12, 13, 14, 15, 16, 17, 18, 19, 20, 21, 22, 23, 24, 25, 26, 27, 28, 29, 30, 31, 32, 33, 34, 35, 36, 37, 38, 39, 40] rfl
  have hDc := hD.sub (ws' := (wG ga gl go cA n ua uL uo)) [0, 1, 2, 3, 4, 5, 6, 7, 8, 9, 10, 11, 12, 13, 14, 15, 16, 17, 18, 19, 20, 21, 22, 23, 24, 25, 26, 27, 28, 29, 30, 31, 32, 33, 34, 35, 36, 37, 38, 39, 40] (by decide) rfl
  have hFc := va_free (wc := (wG ga gl go cA n ua uL uo)) hD hS hA [0, 1, 2, 3, 4, 5, 6, 7, 8, 9, 10, 11, 12, 13, 14, 15, 16, 17, 18, 19, 20, 21, 22, 23, 24, 25, 26, 27, 28, 29, 30, 31, 32, 33, 34, 35, 36, 37, 38, 39, 40] rfl
  refine va_calli (vx_runSW (As := [.ref (ga 0), .int (xs (x4 + 1).toNatClampNeg), .int (xs (x4 + 2).toNatClampNeg), .int (xs (x4 + 3).toNatClampNeg), .ref go]) (rest := []) ⟨hx, hb, hml, hown, hts⟩ (c_L_mark l hl0 dC dI cA sa ga gl go n k hk _ ua uL uo (xs (x4 + 1).toNatClampNeg) (xs (x4 + 2).toNatClampNeg) (xs (x4 + 3).toNatClampNeg) _ hw) (gcSW 5 hts (fun w h => xm h) m471 m469 m470 m20 rfl rfl (by decide +kernel) ⟨Nat.le_of_ble_eq_true rfl, Nat.le_of_ble_eq_true rfl⟩) ⟨xbl2w, fun U hU hW => ⟨rfl, by rw [hU], by rw [hU]; exact hPc, va_K.moved hW.alike hK, hDc.weaken (fun _ _ _ _ => trivial), xEmvA hE hW hS hU, va_Nc.moved hW.alike hN1, va_Nc.moved hW.alike hN2, va_Nc.moved hW.alike hN3⟩⟩ rfl rfl hl.1 rfl (lv_room (Nat.le_of_ble_eq_true rfl)) dL_law_771 ⟨show (cells) + 3 ≤ 601024 by omega, show (slots) + 18 ≤ 7293000 by omega⟩) hS (fun q _ h => hFc q h) hFc (fun k5 u t H1 locs ht hvm hw hB hz1 hk1 hS => ?_)
  obtain ⟨ua1, uL2, uo3⟩ := u
  obtain ⟨hP1, hK1, hD1⟩ := hB
  rw [ht] at hP1
  dsimp only at hw
  have hJ := va_join (wr := w_md gm cA um) (w1 := wG ga gl go cA n ua1 uL2 uo3) hP hD [0, 1, 2, 3, 4, 5, 6, 7, 8, 9, 10, 11, 12, 13, 14, 15, 16, 17, 18, 19, 20, 21, 22, 23, 24, 25, 26, 27, 28, 29, 30, 31, 32, 33, 34, 35, 36, 37, 38, 39, 40] [41, 42, 43, 44, 45, 46, 47, 48, 49, 50, 51, 52, 53, 54, 55, 56] rfl rfl (by decide) (by decide) hk1 hFc hP1 hD1
  have hP : va_P (dC, dI) vwCl (wLaw ga gl go gm cA n ua1 uL2 uo3 um) H1 := hJ.1.sub [16, 17, 18, 19, 20, 21, 22, 23, 24, 25, 26, 27, 28, 29, 30, 31, 32, 33, 34, 35, 36, 37, 38, 39, 40, 41, 42, 43, 44, 45, 46, 47, 48, 49, 50, 51, 52, 53, 54, 55, 56, 0, 1, 2, 3, 4, 5, 6, 7, 8, 9, 10, 11, 12, 13, 14, 15] rfl
  have hD : va_D A (wLaw ga gl go gm cA n ua1 uL2 uo3 um) := hJ.2.sub [16, 17, 18, 19, 20, 21, 22, 23, 24, 25, 26, 27, 28, 29, 30, 31, 32, 33, 34, 35, 36, 37, 38, 39, 40, 41, 42, 43, 44, 45, 46, 47, 48, 49, 50, 51, 52, 53, 54, 55, 56, 0, 1, 2, 3, 4, 5, 6, 7, 8, 9, 10, 11, 12, 13, 14, 15] (by decide) rfl
  clear hP1 hD1 hK1 hk1 hz1 hFc hDc hPc ht hJ
  generalize H1 = H at hP hS ⊢
  refine lv_istore (lv' := [(5, .int k5), (0, .ref b), (1, .ref (ga 0)), (2, .ref (gm 0)), (3, .ref go), (4, .int x4)]) hx hb dL_law_774 hl (by decide) rfl (fun ls hl => ?_)
  refine lv_aload_n hx hb dL_law_776 rfl (lv_at hl 3 rfl) ?_
  refine lv_aload_n hx hb dL_law_777 rfl (lv_at hl 1 rfl) ?_
  refine lv_iload hx hb dL_law_778 (lv_at hl 5 rfl) ?_
  refine lv_iconst (v := 1) hx hb dL_law_780 (by decide) ?_
  refine lv_iadd hx hb dL_law_781 ?_
  refine va_sld hx hb hX hbl hbA hS hv0 dL_law_782 ?_
  refine lv_aload_n hx hb dL_law_783 rfl (lv_at hl 1 rfl) ?_
  refine lv_iload hx hb dL_law_784 (lv_at hl 5 rfl) ?_
  refine lv_iconst (v := 2) hx hb dL_law_786 (by decide) ?_
  refine lv_iadd hx hb dL_law_787 ?_
  refine va_sld hx hb hX hbl hbA hS hv1 dL_law_788 ?_
  refine lv_aload_n hx hb dL_law_789 rfl (lv_at hl 1 rfl) ?_
  refine lv_iload hx hb dL_law_790 (lv_at hl 5 rfl) ?_
  refine lv_iconst (v := 3) hx hb dL_law_792 (by decide) ?_
  refine lv_iadd hx hb dL_law_793 ?_
  refine va_sld hx hb hX hbl hbA hS hv2 dL_law_794 ?_
  have hPc := hP.sub (ws' := (w_md gm cA um)) [41, 42, 43, 44, 45, 46, 47, 48, 49, 50, 51, 52, 53, 54, 55, 56] rfl
  have hDc := hD.sub (ws' := (w_md gm cA um)) [41, 42, 43, 44, 45, 46, 47, 48, 49, 50, 51, 52, 53, 54, 55, 56] (by decide) rfl
  have hFc := va_free (wc := (w_md gm cA um)) hD hS hA [41, 42, 43, 44, 45, 46, 47, 48, 49, 50, 51, 52, 53, 54, 55, 56] rfl
  refine va_calli (va_runV (As := [.int (xs (x4 + 1).toNatClampNeg), .int (xs (x4 + 2).toNatClampNeg), .int (xs (x4 + 3).toNatClampNeg)]) (rest := []) ⟨hx, hb, hml, hown, hts⟩ (c_X4_mark l dC dI cA gm _ um (xs (x4 + 1).toNatClampNeg) (xs (x4 + 2).toNatClampNeg) (xs (x4 + 3).toNatClampNeg) _ hw) (gcV 3 hts m729 m726 m727 m728 m24 rfl rfl (by decide +kernel) ⟨Nat.le_of_ble_eq_true rfl, Nat.le_of_ble_eq_true rfl⟩) ⟨xbl2, va_recv hK hPc (ci := 3) (q0 := 0) rfl rfl, fun U hU hW => ⟨rfl, by rw [hU], by rw [hU]; exact hPc, va_K.moved hW.alike hK, hDc.weaken (fun _ _ _ _ => trivial)⟩⟩ rfl rfl hl.1 rfl (lv_room (Nat.le_of_ble_eq_true rfl)) dL_law_795 ⟨show (cells + 3) + 0 ≤ 601024 by omega, show (slots + 18) + 0 ≤ 7293000 by omega⟩) hS (fun q _ h => hFc q h) hFc (fun b6 u t H1 locs ht hvm hw hB hz1 hk1 hS => ?_)
  obtain ⟨um4, e_u⟩ : ∃ z, z = u := ⟨_, rfl⟩
  subst e_u
  obtain ⟨hP1, hK1, hD1⟩ := hB
  rw [ht] at hP1
  have hJ := va_join (wr := wG ga gl go cA n ua1 uL2 uo3) (w1 := w_md gm cA um4) hP hD [41, 42, 43, 44, 45, 46, 47, 48, 49, 50, 51, 52, 53, 54, 55, 56] [0, 1, 2, 3, 4, 5, 6, 7, 8, 9, 10, 11, 12, 13, 14, 15, 16, 17, 18, 19, 20, 21, 22, 23, 24, 25, 26, 27, 28, 29, 30, 31, 32, 33, 34, 35, 36, 37, 38, 39, 40] rfl rfl (by decide) (by decide) hk1 hFc hP1 hD1
  have hP : va_P (dC, dI) vwCl (wLaw ga gl go gm cA n ua1 uL2 uo3 um4) H1 := hJ.1.sub [0, 1, 2, 3, 4, 5, 6, 7, 8, 9, 10, 11, 12, 13, 14, 15, 16, 17, 18, 19, 20, 21, 22, 23, 24, 25, 26, 27, 28, 29, 30, 31, 32, 33, 34, 35, 36, 37, 38, 39, 40, 41, 42, 43, 44, 45, 46, 47, 48, 49, 50, 51, 52, 53, 54, 55, 56] rfl
  have hD : va_D A (wLaw ga gl go gm cA n ua1 uL2 uo3 um4) := hJ.2.sub [0, 1, 2, 3, 4, 5, 6, 7, 8, 9, 10, 11, 12, 13, 14, 15, 16, 17, 18, 19, 20, 21, 22, 23, 24, 25, 26, 27, 28, 29, 30, 31, 32, 33, 34, 35, 36, 37, 38, 39, 40, 41, 42, 43, 44, 45, 46, 47, 48, 49, 50, 51, 52, 53, 54, 55, 56] (by decide) rfl
  clear hP1 hD1 hK1 hk1 hz1 hFc hDc hPc ht hJ
  generalize H1 = H at hP hS ⊢
  refine lv_istore (lv' := [(6, .int b6), (5, .int k5), (0, .ref b), (1, .ref (ga 0)), (2, .ref (gm 0)), (3, .ref go), (4, .int x4)]) hx hb dL_law_798 hl (by decide) rfl (fun ls hl => ?_)
  refine lv_aload_n hx hb dL_law_800 rfl (lv_at hl 4 rfl) ?_
  have hPc := hP.sub (ws' := (w_md gm cA um4)) [41, 42, 43, 44, 45, 46, 47, 48, 49, 50, 51, 52, 53, 54, 55, 56] rfl
  refine vp_callSi (va_Run.run (va_runV (As := []) (rest := []) ⟨hx, hb, hml, hown, hts⟩ (c_X4_thrown l dC dI cA gm um4 _ hw) (gcV 0 hts m602 m599 m600 m601 m24 rfl rfl (by decide +kernel) ⟨Nat.le_of_ble_eq_true rfl, Nat.le_of_ble_eq_true rfl⟩) ⟨xbl1, va_recv hK hPc (ci := 3) (q0 := 0) rfl rfl, fun U hU hW => ⟨rfl, by rw [hU]; exact hPc, va_K.moved hW.alike hK⟩⟩ rfl rfl hl.1 rfl (lv_room (Nat.le_of_ble_eq_true rfl)) dL_law_801 ⟨show (cells + 3 + 0) + 0 ≤ 601024 by omega, show (slots + 18 + 0) + 0 ≤ 7293000 by omega⟩)) (fun tt hw => ?_)
  clear hPc
  refine lv_iload hx hb dL_law_804 (lv_at hl 1 rfl) ?_
  refine lv_icmp_eq (tgt := 811) hx hb dL_law_806 (by decide) (fun c1 => ?_) (fun c1 => absurd (And.left hw) c1)
  replace hw := And.right hw
  refine lv_iload hx hb dL_law_811 (lv_at hl 1 rfl) ?_
  have hq := And.left hw
  replace hw := And.right hw
  have hfin : W p l e room_1 s m #[Value.ref b] below meth c H locs (cells + 3 + 0) (slots + 18 + 0) (lw_Z below #[Value.ref b] s) (F0 m 828 ls []) := by
    refine lv_goto (tgt := 1231) hx hb dL_law_828 (by decide) ?_
    exact hnext _ _ _ _ hw _ _ (by omega) (by omega) _ _ _ hP hD hS (lv_sub hl [2, 3, 4, 5, 6] rfl)
  refine lv_if_ne (tgt := 828) hx hb dL_law_813 (by decide) (fun c2 => hfin) (fun c2 => ?_)
  refine lv_aload_n hx hb dL_law_816 rfl (lv_at hl 5 rfl) ?_
  refine lv_iconst (v := 0) hx hb dL_law_817 (by decide) ?_
  refine va_lald hx hb hK hP 40 3 rfl rfl (xin (by decide)) dL_law_818 ?_
  refine lv_iload hx hb dL_law_819 (lv_at hl 0 rfl) ?_
  refine lv_i2l hx hb dL_law_821 rfl ?_
  refine W.lcmp hx hb dL_law_822 ?_
  exact lv_if_eq (tgt := 828) hx hb dL_law_823 (by decide) (fun c3 => hfin) (fun c3 => absurd (xlcmp (hq c2)) c3)
def wp_case_point (L : Nat) (xs : Nat → Int32) (n : Nat) (NX : (Nat → Nat → Int32) → (Nat → Nat → Nat → Int32) → (Nat → Int64) → (Nat → Nat → Int32) → Prop) (x4 : Int32) (ua : Nat → Nat → Int32) (uL : Nat → Nat → Nat → Int32) (uo : Nat → Int64) (um : Nat → Nat → Int32) : Prop :=
  (vp_in (x4 + 1) L ∧ (vp_in (x4 + 2) L ∧ (vp_in (x4 + 3) L ∧ (∃ k, k < 6 ∧ wp_L_point n k ua uL uo (xs (x4 + 1).toNatClampNeg) (xs (x4 + 2).toNatClampNeg) (xs (x4 + 3).toNatClampNeg) (fun k5 ua1 uL2 uo3 => wp_X4_point um (xs (x4 + 1).toNatClampNeg) (xs (x4 + 2).toNatClampNeg) (xs (x4 + 3).toNatClampNeg) (fun b6 um4 => wp_X4_thrown um4 (fun tt => (tt = k5 ∧ ((k5 = 0 → uo3 0 = b6.toInt64) ∧ NX ua1 uL2 uo3 um4)))))))))
set_option maxHeartbeats 4000000 in
set_option maxRecDepth 100000 in
theorem law_point {p : Program} {l : Launch} {e : Env} {s : State} {m : MethodId} {below : List Frame} {meth : Method} {c : Code} {dC : Nat → ClassId} {dI : Nat → Nat → Nat} {cA : Nat → ClassId} {sa : Nat → Nat} {b L : Nat} {xs : Nat → Int32} {ga : Nat → Nat} {gl : Nat → Nat → Nat} {go : Nat} {gm : Nat → Nat} {n : Nat} {A : Nat → Prop} {NX : (Nat → Nat → Int32) → (Nat → Nat → Nat → Int32) → (Nat → Int64) → (Nat → Nat → Int32) → Prop} {x4 : Int32} {cM sM : Nat} (C0 : lCx p l s m meth c dC dI cA sa b L xs A) (hnext : ∀ (ua : Nat → Nat → Int32) (uL : Nat → Nat → Nat → Int32) (uo : Nat → Int64) (um : Nat → Nat → Int32), NX ua uL uo um → ∀ (cells slots : Nat), cells ≤ cM → slots ≤ sM → ∀ (H : Heap) (locs : List Loc) (ls : Array Slot), va_P (dC, dI) vwCl (wLaw ga gl go gm cA n ua uL uo um) H → va_D A (wLaw ga gl go gm cA n ua uL uo um) → va_S A s.heap H locs → lv_has ls 7 [(0, .ref b), (1, .ref (ga 0)), (2, .ref (gm 0)), (3, .ref go), (4, .int x4)] → W p l e room_1 s m #[Value.ref b] below meth c H locs cells slots (lw_Z below #[Value.ref b] s) (F0 m 1231 ls []))
    (ua : Nat → Nat → Int32) (uL : Nat → Nat → Nat → Int32) (uo : Nat → Int64) (um : Nat → Nat → Int32) {ls : Array Slot} {H : Heap} {locs : List Loc} (cells slots : Nat) (hc9 : cells + 3 ≤ cM) (hs9 : slots + 18 ≤ sM) (hcM : cM ≤ 601024) (hsM : sM ≤ 7293000) (hw : wp_case_point L xs n NX x4 ua uL uo um) (hP : va_P (dC, dI) vwCl (wLaw ga gl go gm cA n ua uL uo um) H) (hD : va_D A (wLaw ga gl go gm cA n ua uL uo um)) (hS : va_S A s.heap H locs) (hl : lv_has ls 7 [(0, .ref b), (1, .ref (ga 0)), (2, .ref (gm 0)), (3, .ref go), (4, .int x4)]) : W p l e room_1 s m #[Value.ref b] below meth c H locs cells slots (lw_Z below #[Value.ref b] s) (F0 m 831 ls []) := by
  obtain ⟨hx, hb, hml, hown, hts, hX, hbl, hbA, hA, hK, hE, hN1, hN2, hN3, hl0⟩ := C0
  refine lv_aload_n hx hb dL_law_831 rfl (lv_at hl 1 rfl) ?_
  refine lv_aload_n hx hb dL_law_832 rfl (lv_at hl 0 rfl) ?_
  refine lv_iload hx hb dL_law_833 (lv_at hl 4 rfl) ?_
  refine lv_iconst (v := 1) hx hb dL_law_835 (by decide) ?_
  refine lv_iadd hx hb dL_law_836 ?_
  have hv0 := And.left hw
  replace hw := And.right hw
  refine va_sld hx hb hX hbl hbA hS hv0 dL_law_837 ?_
  refine lv_aload_n hx hb dL_law_838 rfl (lv_at hl 0 rfl) ?_
  refine lv_iload hx hb dL_law_839 (lv_at hl 4 rfl) ?_
  refine lv_iconst (v := 2) hx hb dL_law_841 (by decide) ?_
  refine lv_iadd hx hb dL_law_842 ?_
  have hv1 := And.left hw
  replace hw := And.right hw
  refine va_sld hx hb hX hbl hbA hS hv1 dL_law_843 ?_
  refine lv_aload_n hx hb dL_law_844 rfl (lv_at hl 0 rfl) ?_
  refine lv_iload hx hb dL_law_845 (lv_at hl 4 rfl) ?_
  refine lv_iconst (v := 3) hx hb dL_law_847 (by decide) ?_
  refine lv_iadd hx hb dL_law_848 ?_
  have hv2 := And.left hw
  replace hw := And.right hw
  refine va_sld hx hb hX hbl hbA hS hv2 dL_law_849 ?_
  refine lv_aload_n hx hb dL_law_850 rfl (lv_at hl 3 rfl) ?_
  obtain ⟨k, hk, hw⟩ := hw
  have hPc := hP.sub (ws' := (wG ga gl go cA n ua uL uo)) [0, 1, 2, 3, 4, 5, 6, 7, 8, 9, 10, 11, 12, 13, 14, 15, 16, 17, 18, 19, 20, 21, 22, 23, 24, 25, 26, 27, 28, 29, 30, 31, 32, 33, 34, 35, 36, 37, 38, 39, 40] rfl
  have hDc := hD.sub (ws' := (wG ga gl go cA n ua uL uo)) [0, 1, 2, 3, 4, 5, 6, 7, 8, 9, 10, 11, 12, 13, 14, 15, 16, 17, 18, 19, 20, 21, 22, 23, 24, 25, 26, 27, 28, 29, 30, 31, 32, 33, 34, 35, 36, 37, 38, 39, 40] (by decide) rfl
  have hFc := va_free (wc := (wG ga gl go cA n ua uL uo)) hD hS hA [0, 1, 2, 3, 4, 5, 6, 7, 8, 9, 10, 11, 12, 13, 14, 15, 16, 17, 18, 19, 20, 21, 22, 23, 24, 25, 26, 27, 28, 29, 30, 31, 32, 33, 34, 35, 36, 37, 38, 39, 40] rfl
  refine va_calli (vx_runSW (As := [.ref (ga 0), .int (xs (x4 + 1).toNatClampNeg), .int (xs (x4 + 2).toNatClampNeg), .int (xs (x4 + 3).toNatClampNeg), .ref go]) (rest := []) ⟨hx, hb, hml, hown, hts⟩ (c_L_point l hl0 dC dI cA sa ga gl go n k hk _ ua uL uo (xs (x4 + 1).toNatClampNeg) (xs (x4 + 2).toNatClampNeg) (xs (x4 + 3).toNatClampNeg) _ hw) (gcSW 5 hts (fun w h => xm h) m478 m476 m477 m20 rfl rfl (by decide +kernel) ⟨Nat.le_of_ble_eq_true rfl, Nat.le_of_ble_eq_true rfl⟩) ⟨xbl2w, fun U hU hW => ⟨rfl, by rw [hU], by rw [hU]; exact hPc, va_K.moved hW.alike hK, hDc.weaken (fun _ _ _ _ => trivial), xEmvA hE hW hS hU, va_Nc.moved hW.alike hN1, va_Nc.moved hW.alike hN2, va_Nc.moved hW.alike hN3⟩⟩ rfl rfl hl.1 rfl (lv_room (Nat.le_of_ble_eq_true rfl)) dL_law_851 ⟨show (cells) + 2 ≤ 601024 by omega, show (slots) + 12 ≤ 7293000 by omega⟩) hS (fun q _ h => hFc q h) hFc (fun k5 u t H1 locs ht hvm hw hB hz1 hk1 hS => ?_)
  obtain ⟨ua1, uL2, uo3⟩ := u
  obtain ⟨hP1, hK1, hD1⟩ := hB
  rw [ht] at hP1
  dsimp only at hw
  have hJ := va_join (wr := w_md gm cA um) (w1 := wG ga gl go cA n ua1 uL2 uo3) hP hD [0, 1, 2, 3, 4, 5, 6, 7, 8, 9, 10, 11, 12, 13, 14, 15, 16, 17, 18, 19, 20, 21, 22, 23, 24, 25, 26, 27, 28, 29, 30, 31, 32, 33, 34, 35, 36, 37, 38, 39, 40] [41, 42, 43, 44, 45, 46, 47, 48, 49, 50, 51, 52, 53, 54, 55, 56] rfl rfl (by decide) (by decide) hk1 hFc hP1 hD1
  have hP : va_P (dC, dI) vwCl (wLaw ga gl go gm cA n ua1 uL2 uo3 um) H1 := hJ.1.sub [16, 17, 18, 19, 20, 21, 22, 23, 24, 25, 26, 27, 28, 29, 30, 31, 32, 33, 34, 35, 36, 37, 38, 39, 40, 41, 42, 43, 44, 45, 46, 47, 48, 49, 50, 51, 52, 53, 54, 55, 56, 0, 1, 2, 3, 4, 5, 6, 7, 8, 9, 10, 11, 12, 13, 14, 15] rfl
  have hD : va_D A (wLaw ga gl go gm cA n ua1 uL2 uo3 um) := hJ.2.sub [16, 17, 18, 19, 20, 21, 22, 23, 24, 25, 26, 27, 28, 29, 30, 31, 32, 33, 34, 35, 36, 37, 38, 39, 40, 41, 42, 43, 44, 45, 46, 47, 48, 49, 50, 51, 52, 53, 54, 55, 56, 0, 1, 2, 3, 4, 5, 6, 7, 8, 9, 10, 11, 12, 13, 14, 15] (by decide) rfl
  clear hP1 hD1 hK1 hk1 hz1 hFc hDc hPc ht hJ
  generalize H1 = H at hP hS ⊢
  refine lv_istore (lv' := [(5, .int k5), (0, .ref b), (1, .ref (ga 0)), (2, .ref (gm 0)), (3, .ref go), (4, .int x4)]) hx hb dL_law_854 hl (by decide) rfl (fun ls hl => ?_)
  refine lv_aload_n hx hb dL_law_856 rfl (lv_at hl 3 rfl) ?_
  refine lv_aload_n hx hb dL_law_857 rfl (lv_at hl 1 rfl) ?_
  refine lv_iload hx hb dL_law_858 (lv_at hl 5 rfl) ?_
  refine lv_iconst (v := 1) hx hb dL_law_860 (by decide) ?_
  refine lv_iadd hx hb dL_law_861 ?_
  refine va_sld hx hb hX hbl hbA hS hv0 dL_law_862 ?_
  refine lv_aload_n hx hb dL_law_863 rfl (lv_at hl 1 rfl) ?_
  refine lv_iload hx hb dL_law_864 (lv_at hl 5 rfl) ?_
  refine lv_iconst (v := 2) hx hb dL_law_866 (by decide) ?_
  refine lv_iadd hx hb dL_law_867 ?_
  refine va_sld hx hb hX hbl hbA hS hv1 dL_law_868 ?_
  refine lv_aload_n hx hb dL_law_869 rfl (lv_at hl 1 rfl) ?_
  refine lv_iload hx hb dL_law_870 (lv_at hl 5 rfl) ?_
  refine lv_iconst (v := 3) hx hb dL_law_872 (by decide) ?_
  refine lv_iadd hx hb dL_law_873 ?_
  refine va_sld hx hb hX hbl hbA hS hv2 dL_law_874 ?_
  have hPc := hP.sub (ws' := (w_md gm cA um)) [41, 42, 43, 44, 45, 46, 47, 48, 49, 50, 51, 52, 53, 54, 55, 56] rfl
  have hDc := hD.sub (ws' := (w_md gm cA um)) [41, 42, 43, 44, 45, 46, 47, 48, 49, 50, 51, 52, 53, 54, 55, 56] (by decide) rfl
  have hFc := va_free (wc := (w_md gm cA um)) hD hS hA [41, 42, 43, 44, 45, 46, 47, 48, 49, 50, 51, 52, 53, 54, 55, 56] rfl
  refine va_calli (va_runV (As := [.int (xs (x4 + 1).toNatClampNeg), .int (xs (x4 + 2).toNatClampNeg), .int (xs (x4 + 3).toNatClampNeg)]) (rest := []) ⟨hx, hb, hml, hown, hts⟩ (c_X4_point l dC dI cA gm _ um (xs (x4 + 1).toNatClampNeg) (xs (x4 + 2).toNatClampNeg) (xs (x4 + 3).toNatClampNeg) _ hw) (gcV 3 hts m737 m734 m735 m736 m24 rfl rfl (by decide +kernel) ⟨Nat.le_of_ble_eq_true rfl, Nat.le_of_ble_eq_true rfl⟩) ⟨xbl2, va_recv hK hPc (ci := 3) (q0 := 0) rfl rfl, fun U hU hW => ⟨rfl, by rw [hU], by rw [hU]; exact hPc, va_K.moved hW.alike hK, hDc.weaken (fun _ _ _ _ => trivial)⟩⟩ rfl rfl hl.1 rfl (lv_room (Nat.le_of_ble_eq_true rfl)) dL_law_875 ⟨show (cells + 2) + 0 ≤ 601024 by omega, show (slots + 12) + 0 ≤ 7293000 by omega⟩) hS (fun q _ h => hFc q h) hFc (fun b6 u t H1 locs ht hvm hw hB hz1 hk1 hS => ?_)
  obtain ⟨um4, e_u⟩ : ∃ z, z = u := ⟨_, rfl⟩
  subst e_u
  obtain ⟨hP1, hK1, hD1⟩ := hB
  rw [ht] at hP1
  have hJ := va_join (wr := wG ga gl go cA n ua1 uL2 uo3) (w1 := w_md gm cA um4) hP hD [41, 42, 43, 44, 45, 46, 47, 48, 49, 50, 51, 52, 53, 54, 55, 56] [0, 1, 2, 3, 4, 5, 6, 7, 8, 9, 10, 11, 12, 13, 14, 15, 16, 17, 18, 19, 20, 21, 22, 23, 24, 25, 26, 27, 28, 29, 30, 31, 32, 33, 34, 35, 36, 37, 38, 39, 40] rfl rfl (by decide) (by decide) hk1 hFc hP1 hD1
  have hP : va_P (dC, dI) vwCl (wLaw ga gl go gm cA n ua1 uL2 uo3 um4) H1 := hJ.1.sub [0, 1, 2, 3, 4, 5, 6, 7, 8, 9, 10, 11, 12, 13, 14, 15, 16, 17, 18, 19, 20, 21, 22, 23, 24, 25, 26, 27, 28, 29, 30, 31, 32, 33, 34, 35, 36, 37, 38, 39, 40, 41, 42, 43, 44, 45, 46, 47, 48, 49, 50, 51, 52, 53, 54, 55, 56] rfl
  have hD : va_D A (wLaw ga gl go gm cA n ua1 uL2 uo3 um4) := hJ.2.sub [0, 1, 2, 3, 4, 5, 6, 7, 8, 9, 10, 11, 12, 13, 14, 15, 16, 17, 18, 19, 20, 21, 22, 23, 24, 25, 26, 27, 28, 29, 30, 31, 32, 33, 34, 35, 36, 37, 38, 39, 40, 41, 42, 43, 44, 45, 46, 47, 48, 49, 50, 51, 52, 53, 54, 55, 56] (by decide) rfl
  clear hP1 hD1 hK1 hk1 hz1 hFc hDc hPc ht hJ
  generalize H1 = H at hP hS ⊢
  refine lv_istore (lv' := [(6, .int b6), (5, .int k5), (0, .ref b), (1, .ref (ga 0)), (2, .ref (gm 0)), (3, .ref go), (4, .int x4)]) hx hb dL_law_878 hl (by decide) rfl (fun ls hl => ?_)
  refine lv_aload_n hx hb dL_law_880 rfl (lv_at hl 4 rfl) ?_
  have hPc := hP.sub (ws' := (w_md gm cA um4)) [41, 42, 43, 44, 45, 46, 47, 48, 49, 50, 51, 52, 53, 54, 55, 56] rfl
  refine vp_callSi (va_Run.run (va_runV (As := []) (rest := []) ⟨hx, hb, hml, hown, hts⟩ (c_X4_thrown l dC dI cA gm um4 _ hw) (gcV 0 hts m602 m599 m600 m601 m24 rfl rfl (by decide +kernel) ⟨Nat.le_of_ble_eq_true rfl, Nat.le_of_ble_eq_true rfl⟩) ⟨xbl1, va_recv hK hPc (ci := 3) (q0 := 0) rfl rfl, fun U hU hW => ⟨rfl, by rw [hU]; exact hPc, va_K.moved hW.alike hK⟩⟩ rfl rfl hl.1 rfl (lv_room (Nat.le_of_ble_eq_true rfl)) dL_law_881 ⟨show (cells + 2 + 0) + 0 ≤ 601024 by omega, show (slots + 12 + 0) + 0 ≤ 7293000 by omega⟩)) (fun tt hw => ?_)
  clear hPc
  refine lv_iload hx hb dL_law_884 (lv_at hl 1 rfl) ?_
  refine lv_icmp_eq (tgt := 891) hx hb dL_law_886 (by decide) (fun c1 => ?_) (fun c1 => absurd (And.left hw) c1)
  replace hw := And.right hw
  refine lv_iload hx hb dL_law_891 (lv_at hl 1 rfl) ?_
  have hq := And.left hw
  replace hw := And.right hw
  have hfin : W p l e room_1 s m #[Value.ref b] below meth c H locs (cells + 2 + 0) (slots + 12 + 0) (lw_Z below #[Value.ref b] s) (F0 m 908 ls []) := by
    refine lv_goto (tgt := 1231) hx hb dL_law_908 (by decide) ?_
    exact hnext _ _ _ _ hw _ _ (by omega) (by omega) _ _ _ hP hD hS (lv_sub hl [2, 3, 4, 5, 6] rfl)
  refine lv_if_ne (tgt := 908) hx hb dL_law_893 (by decide) (fun c2 => hfin) (fun c2 => ?_)
  refine lv_aload_n hx hb dL_law_896 rfl (lv_at hl 5 rfl) ?_
  refine lv_iconst (v := 0) hx hb dL_law_897 (by decide) ?_
  refine va_lald hx hb hK hP 40 3 rfl rfl (xin (by decide)) dL_law_898 ?_
  refine lv_iload hx hb dL_law_899 (lv_at hl 0 rfl) ?_
  refine lv_i2l hx hb dL_law_901 rfl ?_
  refine W.lcmp hx hb dL_law_902 ?_
  exact lv_if_eq (tgt := 908) hx hb dL_law_903 (by decide) (fun c3 => hfin) (fun c3 => absurd (xlcmp (hq c2)) c3)
def wp_case_alpha (L : Nat) (xs : Nat → Int32) (n : Nat) (NX : (Nat → Nat → Int32) → (Nat → Nat → Nat → Int32) → (Nat → Int64) → (Nat → Nat → Int32) → Prop) (x4 : Int32) (ua : Nat → Nat → Int32) (uL : Nat → Nat → Nat → Int32) (uo : Nat → Int64) (um : Nat → Nat → Int32) : Prop :=
  (vp_in (x4 + 1) L ∧ (vp_in (x4 + 2) L ∧ (vp_in (x4 + 3) L ∧ (∃ k, k < 6 ∧ wp_L_alpha n k ua uL uo (xs (x4 + 1).toNatClampNeg) (xs (x4 + 2).toNatClampNeg) (xs (x4 + 3).toNatClampNeg) (fun k5 ua1 uL2 uo3 => wp_X4_alpha um (xs (x4 + 1).toNatClampNeg) (xs (x4 + 2).toNatClampNeg) (xs (x4 + 3).toNatClampNeg) (fun b6 um4 => wp_X4_thrown um4 (fun tt => (tt = k5 ∧ ((k5 = 0 → uo3 0 = b6.toInt64) ∧ NX ua1 uL2 uo3 um4)))))))))
set_option maxHeartbeats 4000000 in
set_option maxRecDepth 100000 in
theorem law_alpha {p : Program} {l : Launch} {e : Env} {s : State} {m : MethodId} {below : List Frame} {meth : Method} {c : Code} {dC : Nat → ClassId} {dI : Nat → Nat → Nat} {cA : Nat → ClassId} {sa : Nat → Nat} {b L : Nat} {xs : Nat → Int32} {ga : Nat → Nat} {gl : Nat → Nat → Nat} {go : Nat} {gm : Nat → Nat} {n : Nat} {A : Nat → Prop} {NX : (Nat → Nat → Int32) → (Nat → Nat → Nat → Int32) → (Nat → Int64) → (Nat → Nat → Int32) → Prop} {x4 : Int32} {cM sM : Nat} (C0 : lCx p l s m meth c dC dI cA sa b L xs A) (hnext : ∀ (ua : Nat → Nat → Int32) (uL : Nat → Nat → Nat → Int32) (uo : Nat → Int64) (um : Nat → Nat → Int32), NX ua uL uo um → ∀ (cells slots : Nat), cells ≤ cM → slots ≤ sM → ∀ (H : Heap) (locs : List Loc) (ls : Array Slot), va_P (dC, dI) vwCl (wLaw ga gl go gm cA n ua uL uo um) H → va_D A (wLaw ga gl go gm cA n ua uL uo um) → va_S A s.heap H locs → lv_has ls 7 [(0, .ref b), (1, .ref (ga 0)), (2, .ref (gm 0)), (3, .ref go), (4, .int x4)] → W p l e room_1 s m #[Value.ref b] below meth c H locs cells slots (lw_Z below #[Value.ref b] s) (F0 m 1231 ls []))
    (ua : Nat → Nat → Int32) (uL : Nat → Nat → Nat → Int32) (uo : Nat → Int64) (um : Nat → Nat → Int32) {ls : Array Slot} {H : Heap} {locs : List Loc} (cells slots : Nat) (hc9 : cells + 3 ≤ cM) (hs9 : slots + 18 ≤ sM) (hcM : cM ≤ 601024) (hsM : sM ≤ 7293000) (hw : wp_case_alpha L xs n NX x4 ua uL uo um) (hP : va_P (dC, dI) vwCl (wLaw ga gl go gm cA n ua uL uo um) H) (hD : va_D A (wLaw ga gl go gm cA n ua uL uo um)) (hS : va_S A s.heap H locs) (hl : lv_has ls 7 [(0, .ref b), (1, .ref (ga 0)), (2, .ref (gm 0)), (3, .ref go), (4, .int x4)]) : W p l e room_1 s m #[Value.ref b] below meth c H locs cells slots (lw_Z below #[Value.ref b] s) (F0 m 911 ls []) := by
  obtain ⟨hx, hb, hml, hown, hts, hX, hbl, hbA, hA, hK, hE, hN1, hN2, hN3, hl0⟩ := C0
  refine lv_aload_n hx hb dL_law_911 rfl (lv_at hl 1 rfl) ?_
  refine lv_aload_n hx hb dL_law_912 rfl (lv_at hl 0 rfl) ?_
  refine lv_iload hx hb dL_law_913 (lv_at hl 4 rfl) ?_
  refine lv_iconst (v := 1) hx hb dL_law_915 (by decide) ?_
  refine lv_iadd hx hb dL_law_916 ?_
  have hv0 := And.left hw
  replace hw := And.right hw
  refine va_sld hx hb hX hbl hbA hS hv0 dL_law_917 ?_
  refine lv_aload_n hx hb dL_law_918 rfl (lv_at hl 0 rfl) ?_
  refine lv_iload hx hb dL_law_919 (lv_at hl 4 rfl) ?_
  refine lv_iconst (v := 2) hx hb dL_law_921 (by decide) ?_
  refine lv_iadd hx hb dL_law_922 ?_
  have hv1 := And.left hw
  replace hw := And.right hw
  refine va_sld hx hb hX hbl hbA hS hv1 dL_law_923 ?_
  refine lv_aload_n hx hb dL_law_924 rfl (lv_at hl 0 rfl) ?_
  refine lv_iload hx hb dL_law_925 (lv_at hl 4 rfl) ?_
  refine lv_iconst (v := 3) hx hb dL_law_927 (by decide) ?_
  refine lv_iadd hx hb dL_law_928 ?_
  have hv2 := And.left hw
  replace hw := And.right hw
  refine va_sld hx hb hX hbl hbA hS hv2 dL_law_929 ?_
  refine lv_aload_n hx hb dL_law_930 rfl (lv_at hl 3 rfl) ?_
  obtain ⟨k, hk, hw⟩ := hw
  have hPc := hP.sub (ws' := (wG ga gl go cA n ua uL uo)) [0, 1, 2, 3, 4, 5, 6, 7, 8, 9, 10, 11, 12, 13, 14, 15, 16, 17, 18, 19, 20, 21, 22, 23, 24, 25, 26, 27, 28, 29, 30, 31, 32, 33, 34, 35, 36, 37, 38, 39, 40] rfl
  have hDc := hD.sub (ws' := (wG ga gl go cA n ua uL uo)) [0, 1, 2, 3, 4, 5, 6, 7, 8, 9, 10, 11, 12, 13, 14, 15, 16, 17, 18, 19, 20, 21, 22, 23, 24, 25, 26, 27, 28, 29, 30, 31, 32, 33, 34, 35, 36, 37, 38, 39, 40] (by decide) rfl
  have hFc := va_free (wc := (wG ga gl go cA n ua uL uo)) hD hS hA [0, 1, 2, 3, 4, 5, 6, 7, 8, 9, 10, 11, 12, 13, 14, 15, 16, 17, 18, 19, 20, 21, 22, 23, 24, 25, 26, 27, 28, 29, 30, 31, 32, 33, 34, 35, 36, 37, 38, 39, 40] rfl
  refine va_calli (vx_runSW (As := [.ref (ga 0), .int (xs (x4 + 1).toNatClampNeg), .int (xs (x4 + 2).toNatClampNeg), .int (xs (x4 + 3).toNatClampNeg), .ref go]) (rest := []) ⟨hx, hb, hml, hown, hts⟩ (c_L_alpha l hl0 dC dI cA sa ga gl go n k hk _ ua uL uo (xs (x4 + 1).toNatClampNeg) (xs (x4 + 2).toNatClampNeg) (xs (x4 + 3).toNatClampNeg) _ hw) (gcSW 5 hts (fun w h => xm h) m487 m485 m486 m20 rfl rfl (by decide +kernel) ⟨Nat.le_of_ble_eq_true rfl, Nat.le_of_ble_eq_true rfl⟩) ⟨xbl2w, fun U hU hW => ⟨rfl, by rw [hU], by rw [hU]; exact hPc, va_K.moved hW.alike hK, hDc.weaken (fun _ _ _ _ => trivial), xEmvA hE hW hS hU, va_Nc.moved hW.alike hN1, va_Nc.moved hW.alike hN2, va_Nc.moved hW.alike hN3⟩⟩ rfl rfl hl.1 rfl (lv_room (Nat.le_of_ble_eq_true rfl)) dL_law_931 ⟨show (cells) + 2 ≤ 601024 by omega, show (slots) + 12 ≤ 7293000 by omega⟩) hS (fun q _ h => hFc q h) hFc (fun k5 u t H1 locs ht hvm hw hB hz1 hk1 hS => ?_)
  obtain ⟨ua1, uL2, uo3⟩ := u
  obtain ⟨hP1, hK1, hD1⟩ := hB
  rw [ht] at hP1
  dsimp only at hw
  have hJ := va_join (wr := w_md gm cA um) (w1 := wG ga gl go cA n ua1 uL2 uo3) hP hD [0, 1, 2, 3, 4, 5, 6, 7, 8, 9, 10, 11, 12, 13, 14, 15, 16, 17, 18, 19, 20, 21, 22, 23, 24, 25, 26, 27, 28, 29, 30, 31, 32, 33, 34, 35, 36, 37, 38, 39, 40] [41, 42, 43, 44, 45, 46, 47, 48, 49, 50, 51, 52, 53, 54, 55, 56] rfl rfl (by decide) (by decide) hk1 hFc hP1 hD1
  have hP : va_P (dC, dI) vwCl (wLaw ga gl go gm cA n ua1 uL2 uo3 um) H1 := hJ.1.sub [16, 17, 18, 19, 20, 21, 22, 23, 24, 25, 26, 27, 28, 29, 30, 31, 32, 33, 34, 35, 36, 37, 38, 39, 40, 41, 42, 43, 44, 45, 46, 47, 48, 49, 50, 51, 52, 53, 54, 55, 56, 0, 1, 2, 3, 4, 5, 6, 7, 8, 9, 10, 11, 12, 13, 14, 15] rfl
  have hD : va_D A (wLaw ga gl go gm cA n ua1 uL2 uo3 um) := hJ.2.sub [16, 17, 18, 19, 20, 21, 22, 23, 24, 25, 26, 27, 28, 29, 30, 31, 32, 33, 34, 35, 36, 37, 38, 39, 40, 41, 42, 43, 44, 45, 46, 47, 48, 49, 50, 51, 52, 53, 54, 55, 56, 0, 1, 2, 3, 4, 5, 6, 7, 8, 9, 10, 11, 12, 13, 14, 15] (by decide) rfl
  clear hP1 hD1 hK1 hk1 hz1 hFc hDc hPc ht hJ
  generalize H1 = H at hP hS ⊢
  refine lv_istore (lv' := [(5, .int k5), (0, .ref b), (1, .ref (ga 0)), (2, .ref (gm 0)), (3, .ref go), (4, .int x4)]) hx hb dL_law_934 hl (by decide) rfl (fun ls hl => ?_)
  refine lv_aload_n hx hb dL_law_936 rfl (lv_at hl 3 rfl) ?_
  refine lv_aload_n hx hb dL_law_937 rfl (lv_at hl 1 rfl) ?_
  refine lv_iload hx hb dL_law_938 (lv_at hl 5 rfl) ?_
  refine lv_iconst (v := 1) hx hb dL_law_940 (by decide) ?_
  refine lv_iadd hx hb dL_law_941 ?_
  refine va_sld hx hb hX hbl hbA hS hv0 dL_law_942 ?_
  refine lv_aload_n hx hb dL_law_943 rfl (lv_at hl 1 rfl) ?_
  refine lv_iload hx hb dL_law_944 (lv_at hl 5 rfl) ?_
  refine lv_iconst (v := 2) hx hb dL_law_946 (by decide) ?_
  refine lv_iadd hx hb dL_law_947 ?_
  refine va_sld hx hb hX hbl hbA hS hv1 dL_law_948 ?_
  refine lv_aload_n hx hb dL_law_949 rfl (lv_at hl 1 rfl) ?_
  refine lv_iload hx hb dL_law_950 (lv_at hl 5 rfl) ?_
  refine lv_iconst (v := 3) hx hb dL_law_952 (by decide) ?_
  refine lv_iadd hx hb dL_law_953 ?_
  refine va_sld hx hb hX hbl hbA hS hv2 dL_law_954 ?_
  have hPc := hP.sub (ws' := (w_md gm cA um)) [41, 42, 43, 44, 45, 46, 47, 48, 49, 50, 51, 52, 53, 54, 55, 56] rfl
  have hDc := hD.sub (ws' := (w_md gm cA um)) [41, 42, 43, 44, 45, 46, 47, 48, 49, 50, 51, 52, 53, 54, 55, 56] (by decide) rfl
  have hFc := va_free (wc := (w_md gm cA um)) hD hS hA [41, 42, 43, 44, 45, 46, 47, 48, 49, 50, 51, 52, 53, 54, 55, 56] rfl
  refine va_calli (va_runV (As := [.int (xs (x4 + 1).toNatClampNeg), .int (xs (x4 + 2).toNatClampNeg), .int (xs (x4 + 3).toNatClampNeg)]) (rest := []) ⟨hx, hb, hml, hown, hts⟩ (c_X4_alpha l dC dI cA gm _ um (xs (x4 + 1).toNatClampNeg) (xs (x4 + 2).toNatClampNeg) (xs (x4 + 3).toNatClampNeg) _ hw) (gcV 3 hts m741 m738 m739 m740 m24 rfl rfl (by decide +kernel) ⟨Nat.le_of_ble_eq_true rfl, Nat.le_of_ble_eq_true rfl⟩) ⟨xbl2, va_recv hK hPc (ci := 3) (q0 := 0) rfl rfl, fun U hU hW => ⟨rfl, by rw [hU], by rw [hU]; exact hPc, va_K.moved hW.alike hK, hDc.weaken (fun _ _ _ _ => trivial)⟩⟩ rfl rfl hl.1 rfl (lv_room (Nat.le_of_ble_eq_true rfl)) dL_law_955 ⟨show (cells + 2) + 0 ≤ 601024 by omega, show (slots + 12) + 0 ≤ 7293000 by omega⟩) hS (fun q _ h => hFc q h) hFc (fun b6 u t H1 locs ht hvm hw hB hz1 hk1 hS => ?_)
  obtain ⟨um4, e_u⟩ : ∃ z, z = u := ⟨_, rfl⟩
  subst e_u
  obtain ⟨hP1, hK1, hD1⟩ := hB
  rw [ht] at hP1
  have hJ := va_join (wr := wG ga gl go cA n ua1 uL2 uo3) (w1 := w_md gm cA um4) hP hD [41, 42, 43, 44, 45, 46, 47, 48, 49, 50, 51, 52, 53, 54, 55, 56] [0, 1, 2, 3, 4, 5, 6, 7, 8, 9, 10, 11, 12, 13, 14, 15, 16, 17, 18, 19, 20, 21, 22, 23, 24, 25, 26, 27, 28, 29, 30, 31, 32, 33, 34, 35, 36, 37, 38, 39, 40] rfl rfl (by decide) (by decide) hk1 hFc hP1 hD1
  have hP : va_P (dC, dI) vwCl (wLaw ga gl go gm cA n ua1 uL2 uo3 um4) H1 := hJ.1.sub [0, 1, 2, 3, 4, 5, 6, 7, 8, 9, 10, 11, 12, 13, 14, 15, 16, 17, 18, 19, 20, 21, 22, 23, 24, 25, 26, 27, 28, 29, 30, 31, 32, 33, 34, 35, 36, 37, 38, 39, 40, 41, 42, 43, 44, 45, 46, 47, 48, 49, 50, 51, 52, 53, 54, 55, 56] rfl
  have hD : va_D A (wLaw ga gl go gm cA n ua1 uL2 uo3 um4) := hJ.2.sub [0, 1, 2, 3, 4, 5, 6, 7, 8, 9, 10, 11, 12, 13, 14, 15, 16, 17, 18, 19, 20, 21, 22, 23, 24, 25, 26, 27, 28, 29, 30, 31, 32, 33, 34, 35, 36, 37, 38, 39, 40, 41, 42, 43, 44, 45, 46, 47, 48, 49, 50, 51, 52, 53, 54, 55, 56] (by decide) rfl
  clear hP1 hD1 hK1 hk1 hz1 hFc hDc hPc ht hJ
  generalize H1 = H at hP hS ⊢
  refine lv_istore (lv' := [(6, .int b6), (5, .int k5), (0, .ref b), (1, .ref (ga 0)), (2, .ref (gm 0)), (3, .ref go), (4, .int x4)]) hx hb dL_law_958 hl (by decide) rfl (fun ls hl => ?_)
  refine lv_aload_n hx hb dL_law_960 rfl (lv_at hl 4 rfl) ?_
  have hPc := hP.sub (ws' := (w_md gm cA um4)) [41, 42, 43, 44, 45, 46, 47, 48, 49, 50, 51, 52, 53, 54, 55, 56] rfl
  refine vp_callSi (va_Run.run (va_runV (As := []) (rest := []) ⟨hx, hb, hml, hown, hts⟩ (c_X4_thrown l dC dI cA gm um4 _ hw) (gcV 0 hts m602 m599 m600 m601 m24 rfl rfl (by decide +kernel) ⟨Nat.le_of_ble_eq_true rfl, Nat.le_of_ble_eq_true rfl⟩) ⟨xbl1, va_recv hK hPc (ci := 3) (q0 := 0) rfl rfl, fun U hU hW => ⟨rfl, by rw [hU]; exact hPc, va_K.moved hW.alike hK⟩⟩ rfl rfl hl.1 rfl (lv_room (Nat.le_of_ble_eq_true rfl)) dL_law_961 ⟨show (cells + 2 + 0) + 0 ≤ 601024 by omega, show (slots + 12 + 0) + 0 ≤ 7293000 by omega⟩)) (fun tt hw => ?_)
  clear hPc
  refine lv_iload hx hb dL_law_964 (lv_at hl 1 rfl) ?_
  refine lv_icmp_eq (tgt := 971) hx hb dL_law_966 (by decide) (fun c1 => ?_) (fun c1 => absurd (And.left hw) c1)
  replace hw := And.right hw
  refine lv_iload hx hb dL_law_971 (lv_at hl 1 rfl) ?_
  have hq := And.left hw
  replace hw := And.right hw
  have hfin : W p l e room_1 s m #[Value.ref b] below meth c H locs (cells + 2 + 0) (slots + 12 + 0) (lw_Z below #[Value.ref b] s) (F0 m 988 ls []) := by
    refine lv_goto (tgt := 1231) hx hb dL_law_988 (by decide) ?_
    exact hnext _ _ _ _ hw _ _ (by omega) (by omega) _ _ _ hP hD hS (lv_sub hl [2, 3, 4, 5, 6] rfl)
  refine lv_if_ne (tgt := 988) hx hb dL_law_973 (by decide) (fun c2 => hfin) (fun c2 => ?_)
  refine lv_aload_n hx hb dL_law_976 rfl (lv_at hl 5 rfl) ?_
  refine lv_iconst (v := 0) hx hb dL_law_977 (by decide) ?_
  refine va_lald hx hb hK hP 40 3 rfl rfl (xin (by decide)) dL_law_978 ?_
  refine lv_iload hx hb dL_law_979 (lv_at hl 0 rfl) ?_
  refine lv_i2l hx hb dL_law_981 rfl ?_
  refine W.lcmp hx hb dL_law_982 ?_
  exact lv_if_eq (tgt := 988) hx hb dL_law_983 (by decide) (fun c3 => hfin) (fun c3 => absurd (xlcmp (hq c2)) c3)
def wp_case_paper (L : Nat) (xs : Nat → Int32) (n : Nat) (NX : (Nat → Nat → Int32) → (Nat → Nat → Nat → Int32) → (Nat → Int64) → (Nat → Nat → Int32) → Prop) (x4 : Int32) (ua : Nat → Nat → Int32) (uL : Nat → Nat → Nat → Int32) (uo : Nat → Int64) (um : Nat → Nat → Int32) : Prop :=
  (vp_in (x4 + 1) L ∧ (vp_in (x4 + 2) L ∧ (vp_in (x4 + 3) L ∧ (∃ k, k < 6 ∧ wp_L_paper n k ua uL uo (xs (x4 + 1).toNatClampNeg) (xs (x4 + 2).toNatClampNeg) (xs (x4 + 3).toNatClampNeg) (fun k5 ua1 uL2 uo3 => wp_X4_paper um (xs (x4 + 1).toNatClampNeg) (xs (x4 + 2).toNatClampNeg) (xs (x4 + 3).toNatClampNeg) (fun b6 um4 => wp_X4_thrown um4 (fun tt => (tt = k5 ∧ ((k5 = 0 → uo3 0 = b6.toInt64) ∧ NX ua1 uL2 uo3 um4)))))))))
set_option maxHeartbeats 4000000 in
set_option maxRecDepth 100000 in
theorem law_paper {p : Program} {l : Launch} {e : Env} {s : State} {m : MethodId} {below : List Frame} {meth : Method} {c : Code} {dC : Nat → ClassId} {dI : Nat → Nat → Nat} {cA : Nat → ClassId} {sa : Nat → Nat} {b L : Nat} {xs : Nat → Int32} {ga : Nat → Nat} {gl : Nat → Nat → Nat} {go : Nat} {gm : Nat → Nat} {n : Nat} {A : Nat → Prop} {NX : (Nat → Nat → Int32) → (Nat → Nat → Nat → Int32) → (Nat → Int64) → (Nat → Nat → Int32) → Prop} {x4 : Int32} {cM sM : Nat} (C0 : lCx p l s m meth c dC dI cA sa b L xs A) (hnext : ∀ (ua : Nat → Nat → Int32) (uL : Nat → Nat → Nat → Int32) (uo : Nat → Int64) (um : Nat → Nat → Int32), NX ua uL uo um → ∀ (cells slots : Nat), cells ≤ cM → slots ≤ sM → ∀ (H : Heap) (locs : List Loc) (ls : Array Slot), va_P (dC, dI) vwCl (wLaw ga gl go gm cA n ua uL uo um) H → va_D A (wLaw ga gl go gm cA n ua uL uo um) → va_S A s.heap H locs → lv_has ls 7 [(0, .ref b), (1, .ref (ga 0)), (2, .ref (gm 0)), (3, .ref go), (4, .int x4)] → W p l e room_1 s m #[Value.ref b] below meth c H locs cells slots (lw_Z below #[Value.ref b] s) (F0 m 1231 ls []))
    (ua : Nat → Nat → Int32) (uL : Nat → Nat → Nat → Int32) (uo : Nat → Int64) (um : Nat → Nat → Int32) {ls : Array Slot} {H : Heap} {locs : List Loc} (cells slots : Nat) (hc9 : cells + 3 ≤ cM) (hs9 : slots + 18 ≤ sM) (hcM : cM ≤ 601024) (hsM : sM ≤ 7293000) (hw : wp_case_paper L xs n NX x4 ua uL uo um) (hP : va_P (dC, dI) vwCl (wLaw ga gl go gm cA n ua uL uo um) H) (hD : va_D A (wLaw ga gl go gm cA n ua uL uo um)) (hS : va_S A s.heap H locs) (hl : lv_has ls 7 [(0, .ref b), (1, .ref (ga 0)), (2, .ref (gm 0)), (3, .ref go), (4, .int x4)]) : W p l e room_1 s m #[Value.ref b] below meth c H locs cells slots (lw_Z below #[Value.ref b] s) (F0 m 991 ls []) := by
  obtain ⟨hx, hb, hml, hown, hts, hX, hbl, hbA, hA, hK, hE, hN1, hN2, hN3, hl0⟩ := C0
  refine lv_aload_n hx hb dL_law_991 rfl (lv_at hl 1 rfl) ?_
  refine lv_aload_n hx hb dL_law_992 rfl (lv_at hl 0 rfl) ?_
  refine lv_iload hx hb dL_law_993 (lv_at hl 4 rfl) ?_
  refine lv_iconst (v := 1) hx hb dL_law_995 (by decide) ?_
  refine lv_iadd hx hb dL_law_996 ?_
  have hv0 := And.left hw
  replace hw := And.right hw
  refine va_sld hx hb hX hbl hbA hS hv0 dL_law_997 ?_
  refine lv_aload_n hx hb dL_law_998 rfl (lv_at hl 0 rfl) ?_
  refine lv_iload hx hb dL_law_999 (lv_at hl 4 rfl) ?_
  refine lv_iconst (v := 2) hx hb dL_law_1001 (by decide) ?_
  refine lv_iadd hx hb dL_law_1002 ?_
  have hv1 := And.left hw
  replace hw := And.right hw
  refine va_sld hx hb hX hbl hbA hS hv1 dL_law_1003 ?_
  refine lv_aload_n hx hb dL_law_1004 rfl (lv_at hl 0 rfl) ?_
  refine lv_iload hx hb dL_law_1005 (lv_at hl 4 rfl) ?_
  refine lv_iconst (v := 3) hx hb dL_law_1007 (by decide) ?_
  refine lv_iadd hx hb dL_law_1008 ?_
  have hv2 := And.left hw
  replace hw := And.right hw
  refine va_sld hx hb hX hbl hbA hS hv2 dL_law_1009 ?_
  refine lv_aload_n hx hb dL_law_1010 rfl (lv_at hl 3 rfl) ?_
  obtain ⟨k, hk, hw⟩ := hw
  have hPc := hP.sub (ws' := (wG ga gl go cA n ua uL uo)) [0, 1, 2, 3, 4, 5, 6, 7, 8, 9, 10, 11, 12, 13, 14, 15, 16, 17, 18, 19, 20, 21, 22, 23, 24, 25, 26, 27, 28, 29, 30, 31, 32, 33, 34, 35, 36, 37, 38, 39, 40] rfl
  have hDc := hD.sub (ws' := (wG ga gl go cA n ua uL uo)) [0, 1, 2, 3, 4, 5, 6, 7, 8, 9, 10, 11, 12, 13, 14, 15, 16, 17, 18, 19, 20, 21, 22, 23, 24, 25, 26, 27, 28, 29, 30, 31, 32, 33, 34, 35, 36, 37, 38, 39, 40] (by decide) rfl
  have hFc := va_free (wc := (wG ga gl go cA n ua uL uo)) hD hS hA [0, 1, 2, 3, 4, 5, 6, 7, 8, 9, 10, 11, 12, 13, 14, 15, 16, 17, 18, 19, 20, 21, 22, 23, 24, 25, 26, 27, 28, 29, 30, 31, 32, 33, 34, 35, 36, 37, 38, 39, 40] rfl
  refine va_calli (vx_runSW (As := [.ref (ga 0), .int (xs (x4 + 1).toNatClampNeg), .int (xs (x4 + 2).toNatClampNeg), .int (xs (x4 + 3).toNatClampNeg), .ref go]) (rest := []) ⟨hx, hb, hml, hown, hts⟩ (c_L_paper l hl0 dC dI cA sa ga gl go n k hk _ ua uL uo (xs (x4 + 1).toNatClampNeg) (xs (x4 + 2).toNatClampNeg) (xs (x4 + 3).toNatClampNeg) _ hw) (gcSW 5 hts (fun w h => xm h) m496 m494 m495 m20 rfl rfl (by decide +kernel) ⟨Nat.le_of_ble_eq_true rfl, Nat.le_of_ble_eq_true rfl⟩) ⟨xbl2w, fun U hU hW => ⟨rfl, by rw [hU], by rw [hU]; exact hPc, va_K.moved hW.alike hK, hDc.weaken (fun _ _ _ _ => trivial), xEmvA hE hW hS hU, va_Nc.moved hW.alike hN1, va_Nc.moved hW.alike hN2, va_Nc.moved hW.alike hN3⟩⟩ rfl rfl hl.1 rfl (lv_room (Nat.le_of_ble_eq_true rfl)) dL_law_1011 ⟨show (cells) + 2 ≤ 601024 by omega, show (slots) + 12 ≤ 7293000 by omega⟩) hS (fun q _ h => hFc q h) hFc (fun k5 u t H1 locs ht hvm hw hB hz1 hk1 hS => ?_)
  obtain ⟨ua1, uL2, uo3⟩ := u
  obtain ⟨hP1, hK1, hD1⟩ := hB
  rw [ht] at hP1
  dsimp only at hw
  have hJ := va_join (wr := w_md gm cA um) (w1 := wG ga gl go cA n ua1 uL2 uo3) hP hD [0, 1, 2, 3, 4, 5, 6, 7, 8, 9, 10, 11, 12, 13, 14, 15, 16, 17, 18, 19, 20, 21, 22, 23, 24, 25, 26, 27, 28, 29, 30, 31, 32, 33, 34, 35, 36, 37, 38, 39, 40] [41, 42, 43, 44, 45, 46, 47, 48, 49, 50, 51, 52, 53, 54, 55, 56] rfl rfl (by decide) (by decide) hk1 hFc hP1 hD1
  have hP : va_P (dC, dI) vwCl (wLaw ga gl go gm cA n ua1 uL2 uo3 um) H1 := hJ.1.sub [16, 17, 18, 19, 20, 21, 22, 23, 24, 25, 26, 27, 28, 29, 30, 31, 32, 33, 34, 35, 36, 37, 38, 39, 40, 41, 42, 43, 44, 45, 46, 47, 48, 49, 50, 51, 52, 53, 54, 55, 56, 0, 1, 2, 3, 4, 5, 6, 7, 8, 9, 10, 11, 12, 13, 14, 15] rfl
  have hD : va_D A (wLaw ga gl go gm cA n ua1 uL2 uo3 um) := hJ.2.sub [16, 17, 18, 19, 20, 21, 22, 23, 24, 25, 26, 27, 28, 29, 30, 31, 32, 33, 34, 35, 36, 37, 38, 39, 40, 41, 42, 43, 44, 45, 46, 47, 48, 49, 50, 51, 52, 53, 54, 55, 56, 0, 1, 2, 3, 4, 5, 6, 7, 8, 9, 10, 11, 12, 13, 14, 15] (by decide) rfl
  clear hP1 hD1 hK1 hk1 hz1 hFc hDc hPc ht hJ
  generalize H1 = H at hP hS ⊢
  refine lv_istore (lv' := [(5, .int k5), (0, .ref b), (1, .ref (ga 0)), (2, .ref (gm 0)), (3, .ref go), (4, .int x4)]) hx hb dL_law_1014 hl (by decide) rfl (fun ls hl => ?_)
  refine lv_aload_n hx hb dL_law_1016 rfl (lv_at hl 3 rfl) ?_
  refine lv_aload_n hx hb dL_law_1017 rfl (lv_at hl 1 rfl) ?_
  refine lv_iload hx hb dL_law_1018 (lv_at hl 5 rfl) ?_
  refine lv_iconst (v := 1) hx hb dL_law_1020 (by decide) ?_
  refine lv_iadd hx hb dL_law_1021 ?_
  refine va_sld hx hb hX hbl hbA hS hv0 dL_law_1022 ?_
  refine lv_aload_n hx hb dL_law_1023 rfl (lv_at hl 1 rfl) ?_
  refine lv_iload hx hb dL_law_1024 (lv_at hl 5 rfl) ?_
  refine lv_iconst (v := 2) hx hb dL_law_1026 (by decide) ?_
  refine lv_iadd hx hb dL_law_1027 ?_
  refine va_sld hx hb hX hbl hbA hS hv1 dL_law_1028 ?_
  refine lv_aload_n hx hb dL_law_1029 rfl (lv_at hl 1 rfl) ?_
  refine lv_iload hx hb dL_law_1030 (lv_at hl 5 rfl) ?_
  refine lv_iconst (v := 3) hx hb dL_law_1032 (by decide) ?_
  refine lv_iadd hx hb dL_law_1033 ?_
  refine va_sld hx hb hX hbl hbA hS hv2 dL_law_1034 ?_
  have hPc := hP.sub (ws' := (w_md gm cA um)) [41, 42, 43, 44, 45, 46, 47, 48, 49, 50, 51, 52, 53, 54, 55, 56] rfl
  have hDc := hD.sub (ws' := (w_md gm cA um)) [41, 42, 43, 44, 45, 46, 47, 48, 49, 50, 51, 52, 53, 54, 55, 56] (by decide) rfl
  have hFc := va_free (wc := (w_md gm cA um)) hD hS hA [41, 42, 43, 44, 45, 46, 47, 48, 49, 50, 51, 52, 53, 54, 55, 56] rfl
  refine va_calli (va_runV (As := [.int (xs (x4 + 1).toNatClampNeg), .int (xs (x4 + 2).toNatClampNeg), .int (xs (x4 + 3).toNatClampNeg)]) (rest := []) ⟨hx, hb, hml, hown, hts⟩ (c_X4_paper l dC dI cA gm _ um (xs (x4 + 1).toNatClampNeg) (xs (x4 + 2).toNatClampNeg) (xs (x4 + 3).toNatClampNeg) _ hw) (gcV 3 hts m745 m742 m743 m744 m24 rfl rfl (by decide +kernel) ⟨Nat.le_of_ble_eq_true rfl, Nat.le_of_ble_eq_true rfl⟩) ⟨xbl2, va_recv hK hPc (ci := 3) (q0 := 0) rfl rfl, fun U hU hW => ⟨rfl, by rw [hU], by rw [hU]; exact hPc, va_K.moved hW.alike hK, hDc.weaken (fun _ _ _ _ => trivial)⟩⟩ rfl rfl hl.1 rfl (lv_room (Nat.le_of_ble_eq_true rfl)) dL_law_1035 ⟨show (cells + 2) + 0 ≤ 601024 by omega, show (slots + 12) + 0 ≤ 7293000 by omega⟩) hS (fun q _ h => hFc q h) hFc (fun b6 u t H1 locs ht hvm hw hB hz1 hk1 hS => ?_)
  obtain ⟨um4, e_u⟩ : ∃ z, z = u := ⟨_, rfl⟩
  subst e_u
  obtain ⟨hP1, hK1, hD1⟩ := hB
  rw [ht] at hP1
  have hJ := va_join (wr := wG ga gl go cA n ua1 uL2 uo3) (w1 := w_md gm cA um4) hP hD [41, 42, 43, 44, 45, 46, 47, 48, 49, 50, 51, 52, 53, 54, 55, 56] [0, 1, 2, 3, 4, 5, 6, 7, 8, 9, 10, 11, 12, 13, 14, 15, 16, 17, 18, 19, 20, 21, 22, 23, 24, 25, 26, 27, 28, 29, 30, 31, 32, 33, 34, 35, 36, 37, 38, 39, 40] rfl rfl (by decide) (by decide) hk1 hFc hP1 hD1
  have hP : va_P (dC, dI) vwCl (wLaw ga gl go gm cA n ua1 uL2 uo3 um4) H1 := hJ.1.sub [0, 1, 2, 3, 4, 5, 6, 7, 8, 9, 10, 11, 12, 13, 14, 15, 16, 17, 18, 19, 20, 21, 22, 23, 24, 25, 26, 27, 28, 29, 30, 31, 32, 33, 34, 35, 36, 37, 38, 39, 40, 41, 42, 43, 44, 45, 46, 47, 48, 49, 50, 51, 52, 53, 54, 55, 56] rfl
  have hD : va_D A (wLaw ga gl go gm cA n ua1 uL2 uo3 um4) := hJ.2.sub [0, 1, 2, 3, 4, 5, 6, 7, 8, 9, 10, 11, 12, 13, 14, 15, 16, 17, 18, 19, 20, 21, 22, 23, 24, 25, 26, 27, 28, 29, 30, 31, 32, 33, 34, 35, 36, 37, 38, 39, 40, 41, 42, 43, 44, 45, 46, 47, 48, 49, 50, 51, 52, 53, 54, 55, 56] (by decide) rfl
  clear hP1 hD1 hK1 hk1 hz1 hFc hDc hPc ht hJ
  generalize H1 = H at hP hS ⊢
  refine lv_istore (lv' := [(6, .int b6), (5, .int k5), (0, .ref b), (1, .ref (ga 0)), (2, .ref (gm 0)), (3, .ref go), (4, .int x4)]) hx hb dL_law_1038 hl (by decide) rfl (fun ls hl => ?_)
  refine lv_aload_n hx hb dL_law_1040 rfl (lv_at hl 4 rfl) ?_
  have hPc := hP.sub (ws' := (w_md gm cA um4)) [41, 42, 43, 44, 45, 46, 47, 48, 49, 50, 51, 52, 53, 54, 55, 56] rfl
  refine vp_callSi (va_Run.run (va_runV (As := []) (rest := []) ⟨hx, hb, hml, hown, hts⟩ (c_X4_thrown l dC dI cA gm um4 _ hw) (gcV 0 hts m602 m599 m600 m601 m24 rfl rfl (by decide +kernel) ⟨Nat.le_of_ble_eq_true rfl, Nat.le_of_ble_eq_true rfl⟩) ⟨xbl1, va_recv hK hPc (ci := 3) (q0 := 0) rfl rfl, fun U hU hW => ⟨rfl, by rw [hU]; exact hPc, va_K.moved hW.alike hK⟩⟩ rfl rfl hl.1 rfl (lv_room (Nat.le_of_ble_eq_true rfl)) dL_law_1041 ⟨show (cells + 2 + 0) + 0 ≤ 601024 by omega, show (slots + 12 + 0) + 0 ≤ 7293000 by omega⟩)) (fun tt hw => ?_)
  clear hPc
  refine lv_iload hx hb dL_law_1044 (lv_at hl 1 rfl) ?_
  refine lv_icmp_eq (tgt := 1051) hx hb dL_law_1046 (by decide) (fun c1 => ?_) (fun c1 => absurd (And.left hw) c1)
  replace hw := And.right hw
  refine lv_iload hx hb dL_law_1051 (lv_at hl 1 rfl) ?_
  have hq := And.left hw
  replace hw := And.right hw
  have hfin : W p l e room_1 s m #[Value.ref b] below meth c H locs (cells + 2 + 0) (slots + 12 + 0) (lw_Z below #[Value.ref b] s) (F0 m 1068 ls []) := by
    refine lv_goto (tgt := 1231) hx hb dL_law_1068 (by decide) ?_
    exact hnext _ _ _ _ hw _ _ (by omega) (by omega) _ _ _ hP hD hS (lv_sub hl [2, 3, 4, 5, 6] rfl)
  refine lv_if_ne (tgt := 1068) hx hb dL_law_1053 (by decide) (fun c2 => hfin) (fun c2 => ?_)
  refine lv_aload_n hx hb dL_law_1056 rfl (lv_at hl 5 rfl) ?_
  refine lv_iconst (v := 0) hx hb dL_law_1057 (by decide) ?_
  refine va_lald hx hb hK hP 40 3 rfl rfl (xin (by decide)) dL_law_1058 ?_
  refine lv_iload hx hb dL_law_1059 (lv_at hl 0 rfl) ?_
  refine lv_i2l hx hb dL_law_1061 rfl ?_
  refine W.lcmp hx hb dL_law_1062 ?_
  exact lv_if_eq (tgt := 1068) hx hb dL_law_1063 (by decide) (fun c3 => hfin) (fun c3 => absurd (xlcmp (hq c2)) c3)
def wp_case_separable (L : Nat) (xs : Nat → Int32) (n : Nat) (NX : (Nat → Nat → Int32) → (Nat → Nat → Nat → Int32) → (Nat → Int64) → (Nat → Nat → Int32) → Prop) (x4 : Int32) (ua : Nat → Nat → Int32) (uL : Nat → Nat → Nat → Int32) (uo : Nat → Int64) (um : Nat → Nat → Int32) : Prop :=
  (vp_in (x4 + 1) L ∧ (vp_in (x4 + 2) L ∧ (vp_in (x4 + 3) L ∧ (wp_L_separable n ua uL uo (xs (x4 + 1).toNatClampNeg) (xs (x4 + 2).toNatClampNeg) (xs (x4 + 3).toNatClampNeg) (fun k5 ua1 uL2 uo3 => wp_X4_separable um (xs (x4 + 1).toNatClampNeg) (xs (x4 + 2).toNatClampNeg) (xs (x4 + 3).toNatClampNeg) (fun b6 um4 => wp_X4_thrown um4 (fun tt => (tt = k5 ∧ ((k5 = 0 → uo3 0 = b6.toInt64) ∧ NX ua1 uL2 uo3 um4)))))))))
set_option maxHeartbeats 4000000 in
set_option maxRecDepth 100000 in
theorem law_separable {p : Program} {l : Launch} {e : Env} {s : State} {m : MethodId} {below : List Frame} {meth : Method} {c : Code} {dC : Nat → ClassId} {dI : Nat → Nat → Nat} {cA : Nat → ClassId} {sa : Nat → Nat} {b L : Nat} {xs : Nat → Int32} {ga : Nat → Nat} {gl : Nat → Nat → Nat} {go : Nat} {gm : Nat → Nat} {n : Nat} {A : Nat → Prop} {NX : (Nat → Nat → Int32) → (Nat → Nat → Nat → Int32) → (Nat → Int64) → (Nat → Nat → Int32) → Prop} {x4 : Int32} {cM sM : Nat} (C0 : lCx p l s m meth c dC dI cA sa b L xs A) (hnext : ∀ (ua : Nat → Nat → Int32) (uL : Nat → Nat → Nat → Int32) (uo : Nat → Int64) (um : Nat → Nat → Int32), NX ua uL uo um → ∀ (cells slots : Nat), cells ≤ cM → slots ≤ sM → ∀ (H : Heap) (locs : List Loc) (ls : Array Slot), va_P (dC, dI) vwCl (wLaw ga gl go gm cA n ua uL uo um) H → va_D A (wLaw ga gl go gm cA n ua uL uo um) → va_S A s.heap H locs → lv_has ls 7 [(0, .ref b), (1, .ref (ga 0)), (2, .ref (gm 0)), (3, .ref go), (4, .int x4)] → W p l e room_1 s m #[Value.ref b] below meth c H locs cells slots (lw_Z below #[Value.ref b] s) (F0 m 1231 ls []))
    (ua : Nat → Nat → Int32) (uL : Nat → Nat → Nat → Int32) (uo : Nat → Int64) (um : Nat → Nat → Int32) {ls : Array Slot} {H : Heap} {locs : List Loc} (cells slots : Nat) (hc9 : cells + 3 ≤ cM) (hs9 : slots + 18 ≤ sM) (hcM : cM ≤ 601024) (hsM : sM ≤ 7293000) (hw : wp_case_separable L xs n NX x4 ua uL uo um) (hP : va_P (dC, dI) vwCl (wLaw ga gl go gm cA n ua uL uo um) H) (hD : va_D A (wLaw ga gl go gm cA n ua uL uo um)) (hS : va_S A s.heap H locs) (hl : lv_has ls 7 [(0, .ref b), (1, .ref (ga 0)), (2, .ref (gm 0)), (3, .ref go), (4, .int x4)]) : W p l e room_1 s m #[Value.ref b] below meth c H locs cells slots (lw_Z below #[Value.ref b] s) (F0 m 1071 ls []) := by
  obtain ⟨hx, hb, hml, hown, hts, hX, hbl, hbA, hA, hK, hE, hN1, hN2, hN3, hl0⟩ := C0
  refine lv_aload_n hx hb dL_law_1071 rfl (lv_at hl 1 rfl) ?_
  refine lv_aload_n hx hb dL_law_1072 rfl (lv_at hl 0 rfl) ?_
  refine lv_iload hx hb dL_law_1073 (lv_at hl 4 rfl) ?_
  refine lv_iconst (v := 1) hx hb dL_law_1075 (by decide) ?_
  refine lv_iadd hx hb dL_law_1076 ?_
  have hv0 := And.left hw
  replace hw := And.right hw
  refine va_sld hx hb hX hbl hbA hS hv0 dL_law_1077 ?_
  refine lv_aload_n hx hb dL_law_1078 rfl (lv_at hl 0 rfl) ?_
  refine lv_iload hx hb dL_law_1079 (lv_at hl 4 rfl) ?_
  refine lv_iconst (v := 2) hx hb dL_law_1081 (by decide) ?_
  refine lv_iadd hx hb dL_law_1082 ?_
  have hv1 := And.left hw
  replace hw := And.right hw
  refine va_sld hx hb hX hbl hbA hS hv1 dL_law_1083 ?_
  refine lv_aload_n hx hb dL_law_1084 rfl (lv_at hl 0 rfl) ?_
  refine lv_iload hx hb dL_law_1085 (lv_at hl 4 rfl) ?_
  refine lv_iconst (v := 3) hx hb dL_law_1087 (by decide) ?_
  refine lv_iadd hx hb dL_law_1088 ?_
  have hv2 := And.left hw
  replace hw := And.right hw
  refine va_sld hx hb hX hbl hbA hS hv2 dL_law_1089 ?_
  refine lv_aload_n hx hb dL_law_1090 rfl (lv_at hl 3 rfl) ?_
  have hPc := hP.sub (ws' := (wG ga gl go cA n ua uL uo)) [0, 1, 2, 3, 4, 5, 6, 7, 8, 9, 10, 11, 12, 13, 14, 15, 16, 17, 18, 19, 20, 21, 22, 23, 24, 25, 26, 27, 28, 29, 30, 31, 32, 33, 34, 35, 36, 37, 38, 39, 40] rfl
  have hDc := hD.sub (ws' := (wG ga gl go cA n ua uL uo)) [0, 1, 2, 3, 4, 5, 6, 7, 8, 9, 10, 11, 12, 13, 14, 15, 16, 17, 18, 19, 20, 21, 22, 23, 24, 25, 26, 27, 28, 29, 30, 31, 32, 33, 34, 35, 36, 37, 38, 39, 40] (by decide) rfl
  have hFc := va_free (wc := (wG ga gl go cA n ua uL uo)) hD hS hA [0, 1, 2, 3, 4, 5, 6, 7, 8, 9, 10, 11, 12, 13, 14, 15, 16, 17, 18, 19, 20, 21, 22, 23, 24, 25, 26, 27, 28, 29, 30, 31, 32, 33, 34, 35, 36, 37, 38, 39, 40] rfl
  refine va_calli (vx_runSW (As := [.ref (ga 0), .int (xs (x4 + 1).toNatClampNeg), .int (xs (x4 + 2).toNatClampNeg), .int (xs (x4 + 3).toNatClampNeg), .ref go]) (rest := []) ⟨hx, hb, hml, hown, hts⟩ (c_L_separable l hl0 dC dI cA sa ga gl go n _ ua uL uo (xs (x4 + 1).toNatClampNeg) (xs (x4 + 2).toNatClampNeg) (xs (x4 + 3).toNatClampNeg) _ hw) (gcSW 5 hts (fun w h => xm h) m503 m501 m502 m20 rfl rfl (by decide +kernel) ⟨Nat.le_of_ble_eq_true rfl, Nat.le_of_ble_eq_true rfl⟩) ⟨xbl2w, fun U hU hW => ⟨rfl, by rw [hU], by rw [hU]; exact hPc, va_K.moved hW.alike hK, hDc.weaken (fun _ _ _ _ => trivial), xEmvA hE hW hS hU, va_Nc.moved hW.alike hN1, va_Nc.moved hW.alike hN2, va_Nc.moved hW.alike hN3⟩⟩ rfl rfl hl.1 rfl (lv_room (Nat.le_of_ble_eq_true rfl)) dL_law_1091 ⟨show (cells) + 3 ≤ 601024 by omega, show (slots) + 18 ≤ 7293000 by omega⟩) hS (fun q _ h => hFc q h) hFc (fun k5 u t H1 locs ht hvm hw hB hz1 hk1 hS => ?_)
  obtain ⟨ua1, uL2, uo3⟩ := u
  obtain ⟨hP1, hK1, hD1⟩ := hB
  rw [ht] at hP1
  dsimp only at hw
  have hJ := va_join (wr := w_md gm cA um) (w1 := wG ga gl go cA n ua1 uL2 uo3) hP hD [0, 1, 2, 3, 4, 5, 6, 7, 8, 9, 10, 11, 12, 13, 14, 15, 16, 17, 18, 19, 20, 21, 22, 23, 24, 25, 26, 27, 28, 29, 30, 31, 32, 33, 34, 35, 36, 37, 38, 39, 40] [41, 42, 43, 44, 45, 46, 47, 48, 49, 50, 51, 52, 53, 54, 55, 56] rfl rfl (by decide) (by decide) hk1 hFc hP1 hD1
  have hP : va_P (dC, dI) vwCl (wLaw ga gl go gm cA n ua1 uL2 uo3 um) H1 := hJ.1.sub [16, 17, 18, 19, 20, 21, 22, 23, 24, 25, 26, 27, 28, 29, 30, 31, 32, 33, 34, 35, 36, 37, 38, 39, 40, 41, 42, 43, 44, 45, 46, 47, 48, 49, 50, 51, 52, 53, 54, 55, 56, 0, 1, 2, 3, 4, 5, 6, 7, 8, 9, 10, 11, 12, 13, 14, 15] rfl
  have hD : va_D A (wLaw ga gl go gm cA n ua1 uL2 uo3 um) := hJ.2.sub [16, 17, 18, 19, 20, 21, 22, 23, 24, 25, 26, 27, 28, 29, 30, 31, 32, 33, 34, 35, 36, 37, 38, 39, 40, 41, 42, 43, 44, 45, 46, 47, 48, 49, 50, 51, 52, 53, 54, 55, 56, 0, 1, 2, 3, 4, 5, 6, 7, 8, 9, 10, 11, 12, 13, 14, 15] (by decide) rfl
  clear hP1 hD1 hK1 hk1 hz1 hFc hDc hPc ht hJ
  generalize H1 = H at hP hS ⊢
  refine lv_istore (lv' := [(5, .int k5), (0, .ref b), (1, .ref (ga 0)), (2, .ref (gm 0)), (3, .ref go), (4, .int x4)]) hx hb dL_law_1094 hl (by decide) rfl (fun ls hl => ?_)
  refine lv_aload_n hx hb dL_law_1096 rfl (lv_at hl 3 rfl) ?_
  refine lv_aload_n hx hb dL_law_1097 rfl (lv_at hl 1 rfl) ?_
  refine lv_iload hx hb dL_law_1098 (lv_at hl 5 rfl) ?_
  refine lv_iconst (v := 1) hx hb dL_law_1100 (by decide) ?_
  refine lv_iadd hx hb dL_law_1101 ?_
  refine va_sld hx hb hX hbl hbA hS hv0 dL_law_1102 ?_
  refine lv_aload_n hx hb dL_law_1103 rfl (lv_at hl 1 rfl) ?_
  refine lv_iload hx hb dL_law_1104 (lv_at hl 5 rfl) ?_
  refine lv_iconst (v := 2) hx hb dL_law_1106 (by decide) ?_
  refine lv_iadd hx hb dL_law_1107 ?_
  refine va_sld hx hb hX hbl hbA hS hv1 dL_law_1108 ?_
  refine lv_aload_n hx hb dL_law_1109 rfl (lv_at hl 1 rfl) ?_
  refine lv_iload hx hb dL_law_1110 (lv_at hl 5 rfl) ?_
  refine lv_iconst (v := 3) hx hb dL_law_1112 (by decide) ?_
  refine lv_iadd hx hb dL_law_1113 ?_
  refine va_sld hx hb hX hbl hbA hS hv2 dL_law_1114 ?_
  have hPc := hP.sub (ws' := (w_md gm cA um)) [41, 42, 43, 44, 45, 46, 47, 48, 49, 50, 51, 52, 53, 54, 55, 56] rfl
  have hDc := hD.sub (ws' := (w_md gm cA um)) [41, 42, 43, 44, 45, 46, 47, 48, 49, 50, 51, 52, 53, 54, 55, 56] (by decide) rfl
  have hFc := va_free (wc := (w_md gm cA um)) hD hS hA [41, 42, 43, 44, 45, 46, 47, 48, 49, 50, 51, 52, 53, 54, 55, 56] rfl
  refine va_calli (va_runV (As := [.int (xs (x4 + 1).toNatClampNeg), .int (xs (x4 + 2).toNatClampNeg), .int (xs (x4 + 3).toNatClampNeg)]) (rest := []) ⟨hx, hb, hml, hown, hts⟩ (c_X4_separable l dC dI cA gm _ um (xs (x4 + 1).toNatClampNeg) (xs (x4 + 2).toNatClampNeg) (xs (x4 + 3).toNatClampNeg) _ hw) (gcV 3 hts m749 m746 m747 m748 m24 rfl rfl (by decide +kernel) ⟨Nat.le_of_ble_eq_true rfl, Nat.le_of_ble_eq_true rfl⟩) ⟨xbl2, va_recv hK hPc (ci := 3) (q0 := 0) rfl rfl, fun U hU hW => ⟨rfl, by rw [hU], by rw [hU]; exact hPc, va_K.moved hW.alike hK, hDc.weaken (fun _ _ _ _ => trivial)⟩⟩ rfl rfl hl.1 rfl (lv_room (Nat.le_of_ble_eq_true rfl)) dL_law_1115 ⟨show (cells + 3) + 0 ≤ 601024 by omega, show (slots + 18) + 0 ≤ 7293000 by omega⟩) hS (fun q _ h => hFc q h) hFc (fun b6 u t H1 locs ht hvm hw hB hz1 hk1 hS => ?_)
  obtain ⟨um4, e_u⟩ : ∃ z, z = u := ⟨_, rfl⟩
  subst e_u
  obtain ⟨hP1, hK1, hD1⟩ := hB
  rw [ht] at hP1
  have hJ := va_join (wr := wG ga gl go cA n ua1 uL2 uo3) (w1 := w_md gm cA um4) hP hD [41, 42, 43, 44, 45, 46, 47, 48, 49, 50, 51, 52, 53, 54, 55, 56] [0, 1, 2, 3, 4, 5, 6, 7, 8, 9, 10, 11, 12, 13, 14, 15, 16, 17, 18, 19, 20, 21, 22, 23, 24, 25, 26, 27, 28, 29, 30, 31, 32, 33, 34, 35, 36, 37, 38, 39, 40] rfl rfl (by decide) (by decide) hk1 hFc hP1 hD1
  have hP : va_P (dC, dI) vwCl (wLaw ga gl go gm cA n ua1 uL2 uo3 um4) H1 := hJ.1.sub [0, 1, 2, 3, 4, 5, 6, 7, 8, 9, 10, 11, 12, 13, 14, 15, 16, 17, 18, 19, 20, 21, 22, 23, 24, 25, 26, 27, 28, 29, 30, 31, 32, 33, 34, 35, 36, 37, 38, 39, 40, 41, 42, 43, 44, 45, 46, 47, 48, 49, 50, 51, 52, 53, 54, 55, 56] rfl
  have hD : va_D A (wLaw ga gl go gm cA n ua1 uL2 uo3 um4) := hJ.2.sub [0, 1, 2, 3, 4, 5, 6, 7, 8, 9, 10, 11, 12, 13, 14, 15, 16, 17, 18, 19, 20, 21, 22, 23, 24, 25, 26, 27, 28, 29, 30, 31, 32, 33, 34, 35, 36, 37, 38, 39, 40, 41, 42, 43, 44, 45, 46, 47, 48, 49, 50, 51, 52, 53, 54, 55, 56] (by decide) rfl
  clear hP1 hD1 hK1 hk1 hz1 hFc hDc hPc ht hJ
  generalize H1 = H at hP hS ⊢
  refine lv_istore (lv' := [(6, .int b6), (5, .int k5), (0, .ref b), (1, .ref (ga 0)), (2, .ref (gm 0)), (3, .ref go), (4, .int x4)]) hx hb dL_law_1118 hl (by decide) rfl (fun ls hl => ?_)
  refine lv_aload_n hx hb dL_law_1120 rfl (lv_at hl 4 rfl) ?_
  have hPc := hP.sub (ws' := (w_md gm cA um4)) [41, 42, 43, 44, 45, 46, 47, 48, 49, 50, 51, 52, 53, 54, 55, 56] rfl
  refine vp_callSi (va_Run.run (va_runV (As := []) (rest := []) ⟨hx, hb, hml, hown, hts⟩ (c_X4_thrown l dC dI cA gm um4 _ hw) (gcV 0 hts m602 m599 m600 m601 m24 rfl rfl (by decide +kernel) ⟨Nat.le_of_ble_eq_true rfl, Nat.le_of_ble_eq_true rfl⟩) ⟨xbl1, va_recv hK hPc (ci := 3) (q0 := 0) rfl rfl, fun U hU hW => ⟨rfl, by rw [hU]; exact hPc, va_K.moved hW.alike hK⟩⟩ rfl rfl hl.1 rfl (lv_room (Nat.le_of_ble_eq_true rfl)) dL_law_1121 ⟨show (cells + 3 + 0) + 0 ≤ 601024 by omega, show (slots + 18 + 0) + 0 ≤ 7293000 by omega⟩)) (fun tt hw => ?_)
  clear hPc
  refine lv_iload hx hb dL_law_1124 (lv_at hl 1 rfl) ?_
  refine lv_icmp_eq (tgt := 1131) hx hb dL_law_1126 (by decide) (fun c1 => ?_) (fun c1 => absurd (And.left hw) c1)
  replace hw := And.right hw
  refine lv_iload hx hb dL_law_1131 (lv_at hl 1 rfl) ?_
  have hq := And.left hw
  replace hw := And.right hw
  have hfin : W p l e room_1 s m #[Value.ref b] below meth c H locs (cells + 3 + 0) (slots + 18 + 0) (lw_Z below #[Value.ref b] s) (F0 m 1148 ls []) := by
    refine lv_goto (tgt := 1231) hx hb dL_law_1148 (by decide) ?_
    exact hnext _ _ _ _ hw _ _ (by omega) (by omega) _ _ _ hP hD hS (lv_sub hl [2, 3, 4, 5, 6] rfl)
  refine lv_if_ne (tgt := 1148) hx hb dL_law_1133 (by decide) (fun c2 => hfin) (fun c2 => ?_)
  refine lv_aload_n hx hb dL_law_1136 rfl (lv_at hl 5 rfl) ?_
  refine lv_iconst (v := 0) hx hb dL_law_1137 (by decide) ?_
  refine va_lald hx hb hK hP 40 3 rfl rfl (xin (by decide)) dL_law_1138 ?_
  refine lv_iload hx hb dL_law_1139 (lv_at hl 0 rfl) ?_
  refine lv_i2l hx hb dL_law_1141 rfl ?_
  refine W.lcmp hx hb dL_law_1142 ?_
  exact lv_if_eq (tgt := 1148) hx hb dL_law_1143 (by decide) (fun c3 => hfin) (fun c3 => absurd (xlcmp (hq c2)) c3)
def wp_case_blend (L : Nat) (xs : Nat → Int32) (n : Nat) (NX : (Nat → Nat → Int32) → (Nat → Nat → Nat → Int32) → (Nat → Int64) → (Nat → Nat → Int32) → Prop) (x4 : Int32) (ua : Nat → Nat → Int32) (uL : Nat → Nat → Nat → Int32) (uo : Nat → Int64) (um : Nat → Nat → Int32) : Prop :=
  (vp_in (x4 + 1) L ∧ (vp_in (x4 + 2) L ∧ (vp_in (x4 + 3) L ∧ (wp_L_blend n ua uL uo (xs (x4 + 1).toNatClampNeg) (xs (x4 + 2).toNatClampNeg) (xs (x4 + 3).toNatClampNeg) (fun k5 ua1 uL2 uo3 => wp_X4_blend um (xs (x4 + 1).toNatClampNeg) (xs (x4 + 2).toNatClampNeg) (xs (x4 + 3).toNatClampNeg) (fun b6 um4 => wp_X4_thrown um4 (fun tt => (tt = k5 ∧ ((k5 = 0 → uo3 0 = b6.toInt64) ∧ NX ua1 uL2 uo3 um4)))))))))
set_option maxHeartbeats 4000000 in
set_option maxRecDepth 100000 in
theorem law_blend {p : Program} {l : Launch} {e : Env} {s : State} {m : MethodId} {below : List Frame} {meth : Method} {c : Code} {dC : Nat → ClassId} {dI : Nat → Nat → Nat} {cA : Nat → ClassId} {sa : Nat → Nat} {b L : Nat} {xs : Nat → Int32} {ga : Nat → Nat} {gl : Nat → Nat → Nat} {go : Nat} {gm : Nat → Nat} {n : Nat} {A : Nat → Prop} {NX : (Nat → Nat → Int32) → (Nat → Nat → Nat → Int32) → (Nat → Int64) → (Nat → Nat → Int32) → Prop} {x4 : Int32} {cM sM : Nat} (C0 : lCx p l s m meth c dC dI cA sa b L xs A) (hnext : ∀ (ua : Nat → Nat → Int32) (uL : Nat → Nat → Nat → Int32) (uo : Nat → Int64) (um : Nat → Nat → Int32), NX ua uL uo um → ∀ (cells slots : Nat), cells ≤ cM → slots ≤ sM → ∀ (H : Heap) (locs : List Loc) (ls : Array Slot), va_P (dC, dI) vwCl (wLaw ga gl go gm cA n ua uL uo um) H → va_D A (wLaw ga gl go gm cA n ua uL uo um) → va_S A s.heap H locs → lv_has ls 7 [(0, .ref b), (1, .ref (ga 0)), (2, .ref (gm 0)), (3, .ref go), (4, .int x4)] → W p l e room_1 s m #[Value.ref b] below meth c H locs cells slots (lw_Z below #[Value.ref b] s) (F0 m 1231 ls []))
    (ua : Nat → Nat → Int32) (uL : Nat → Nat → Nat → Int32) (uo : Nat → Int64) (um : Nat → Nat → Int32) {ls : Array Slot} {H : Heap} {locs : List Loc} (cells slots : Nat) (hc9 : cells + 3 ≤ cM) (hs9 : slots + 18 ≤ sM) (hcM : cM ≤ 601024) (hsM : sM ≤ 7293000) (hw : wp_case_blend L xs n NX x4 ua uL uo um) (hP : va_P (dC, dI) vwCl (wLaw ga gl go gm cA n ua uL uo um) H) (hD : va_D A (wLaw ga gl go gm cA n ua uL uo um)) (hS : va_S A s.heap H locs) (hl : lv_has ls 7 [(0, .ref b), (1, .ref (ga 0)), (2, .ref (gm 0)), (3, .ref go), (4, .int x4)]) : W p l e room_1 s m #[Value.ref b] below meth c H locs cells slots (lw_Z below #[Value.ref b] s) (F0 m 1151 ls []) := by
  obtain ⟨hx, hb, hml, hown, hts, hX, hbl, hbA, hA, hK, hE, hN1, hN2, hN3, hl0⟩ := C0
  refine lv_aload_n hx hb dL_law_1151 rfl (lv_at hl 1 rfl) ?_
  refine lv_aload_n hx hb dL_law_1152 rfl (lv_at hl 0 rfl) ?_
  refine lv_iload hx hb dL_law_1153 (lv_at hl 4 rfl) ?_
  refine lv_iconst (v := 1) hx hb dL_law_1155 (by decide) ?_
  refine lv_iadd hx hb dL_law_1156 ?_
  have hv0 := And.left hw
  replace hw := And.right hw
  refine va_sld hx hb hX hbl hbA hS hv0 dL_law_1157 ?_
  refine lv_aload_n hx hb dL_law_1158 rfl (lv_at hl 0 rfl) ?_
  refine lv_iload hx hb dL_law_1159 (lv_at hl 4 rfl) ?_
  refine lv_iconst (v := 2) hx hb dL_law_1161 (by decide) ?_
  refine lv_iadd hx hb dL_law_1162 ?_
  have hv1 := And.left hw
  replace hw := And.right hw
  refine va_sld hx hb hX hbl hbA hS hv1 dL_law_1163 ?_
  refine lv_aload_n hx hb dL_law_1164 rfl (lv_at hl 0 rfl) ?_
  refine lv_iload hx hb dL_law_1165 (lv_at hl 4 rfl) ?_
  refine lv_iconst (v := 3) hx hb dL_law_1167 (by decide) ?_
  refine lv_iadd hx hb dL_law_1168 ?_
  have hv2 := And.left hw
  replace hw := And.right hw
  refine va_sld hx hb hX hbl hbA hS hv2 dL_law_1169 ?_
  refine lv_aload_n hx hb dL_law_1170 rfl (lv_at hl 3 rfl) ?_
  have hPc := hP.sub (ws' := (wG ga gl go cA n ua uL uo)) [0, 1, 2, 3, 4, 5, 6, 7, 8, 9, 10, 11, 12, 13, 14, 15, 16, 17, 18, 19, 20, 21, 22, 23, 24, 25, 26, 27, 28, 29, 30, 31, 32, 33, 34, 35, 36, 37, 38, 39, 40] rfl
  have hDc := hD.sub (ws' := (wG ga gl go cA n ua uL uo)) [0, 1, 2, 3, 4, 5, 6, 7, 8, 9, 10, 11, 12, 13, 14, 15, 16, 17, 18, 19, 20, 21, 22, 23, 24, 25, 26, 27, 28, 29, 30, 31, 32, 33, 34, 35, 36, 37, 38, 39, 40] (by decide) rfl
  have hFc := va_free (wc := (wG ga gl go cA n ua uL uo)) hD hS hA [0, 1, 2, 3, 4, 5, 6, 7, 8, 9, 10, 11, 12, 13, 14, 15, 16, 17, 18, 19, 20, 21, 22, 23, 24, 25, 26, 27, 28, 29, 30, 31, 32, 33, 34, 35, 36, 37, 38, 39, 40] rfl
  refine va_calli (vx_runSW (As := [.ref (ga 0), .int (xs (x4 + 1).toNatClampNeg), .int (xs (x4 + 2).toNatClampNeg), .int (xs (x4 + 3).toNatClampNeg), .ref go]) (rest := []) ⟨hx, hb, hml, hown, hts⟩ (c_L_blend l hl0 dC dI cA sa ga gl go n _ ua uL uo (xs (x4 + 1).toNatClampNeg) (xs (x4 + 2).toNatClampNeg) (xs (x4 + 3).toNatClampNeg) _ hw) (gcSW 5 hts (fun w h => xm h) m511 m509 m510 m20 rfl rfl (by decide +kernel) ⟨Nat.le_of_ble_eq_true rfl, Nat.le_of_ble_eq_true rfl⟩) ⟨xbl2w, fun U hU hW => ⟨rfl, by rw [hU], by rw [hU]; exact hPc, va_K.moved hW.alike hK, hDc.weaken (fun _ _ _ _ => trivial), xEmvA hE hW hS hU, va_Nc.moved hW.alike hN1, va_Nc.moved hW.alike hN2, va_Nc.moved hW.alike hN3⟩⟩ rfl rfl hl.1 rfl (lv_room (Nat.le_of_ble_eq_true rfl)) dL_law_1171 ⟨show (cells) + 3 ≤ 601024 by omega, show (slots) + 18 ≤ 7293000 by omega⟩) hS (fun q _ h => hFc q h) hFc (fun k5 u t H1 locs ht hvm hw hB hz1 hk1 hS => ?_)
  obtain ⟨ua1, uL2, uo3⟩ := u
  obtain ⟨hP1, hK1, hD1⟩ := hB
  rw [ht] at hP1
  dsimp only at hw
  have hJ := va_join (wr := w_md gm cA um) (w1 := wG ga gl go cA n ua1 uL2 uo3) hP hD [0, 1, 2, 3, 4, 5, 6, 7, 8, 9, 10, 11, 12, 13, 14, 15, 16, 17, 18, 19, 20, 21, 22, 23, 24, 25, 26, 27, 28, 29, 30, 31, 32, 33, 34, 35, 36, 37, 38, 39, 40] [41, 42, 43, 44, 45, 46, 47, 48, 49, 50, 51, 52, 53, 54, 55, 56] rfl rfl (by decide) (by decide) hk1 hFc hP1 hD1
  have hP : va_P (dC, dI) vwCl (wLaw ga gl go gm cA n ua1 uL2 uo3 um) H1 := hJ.1.sub [16, 17, 18, 19, 20, 21, 22, 23, 24, 25, 26, 27, 28, 29, 30, 31, 32, 33, 34, 35, 36, 37, 38, 39, 40, 41, 42, 43, 44, 45, 46, 47, 48, 49, 50, 51, 52, 53, 54, 55, 56, 0, 1, 2, 3, 4, 5, 6, 7, 8, 9, 10, 11, 12, 13, 14, 15] rfl
  have hD : va_D A (wLaw ga gl go gm cA n ua1 uL2 uo3 um) := hJ.2.sub [16, 17, 18, 19, 20, 21, 22, 23, 24, 25, 26, 27, 28, 29, 30, 31, 32, 33, 34, 35, 36, 37, 38, 39, 40, 41, 42, 43, 44, 45, 46, 47, 48, 49, 50, 51, 52, 53, 54, 55, 56, 0, 1, 2, 3, 4, 5, 6, 7, 8, 9, 10, 11, 12, 13, 14, 15] (by decide) rfl
  clear hP1 hD1 hK1 hk1 hz1 hFc hDc hPc ht hJ
  generalize H1 = H at hP hS ⊢
  refine lv_istore (lv' := [(5, .int k5), (0, .ref b), (1, .ref (ga 0)), (2, .ref (gm 0)), (3, .ref go), (4, .int x4)]) hx hb dL_law_1174 hl (by decide) rfl (fun ls hl => ?_)
  refine lv_aload_n hx hb dL_law_1176 rfl (lv_at hl 3 rfl) ?_
  refine lv_aload_n hx hb dL_law_1177 rfl (lv_at hl 1 rfl) ?_
  refine lv_iload hx hb dL_law_1178 (lv_at hl 5 rfl) ?_
  refine lv_iconst (v := 1) hx hb dL_law_1180 (by decide) ?_
  refine lv_iadd hx hb dL_law_1181 ?_
  refine va_sld hx hb hX hbl hbA hS hv0 dL_law_1182 ?_
  refine lv_aload_n hx hb dL_law_1183 rfl (lv_at hl 1 rfl) ?_
  refine lv_iload hx hb dL_law_1184 (lv_at hl 5 rfl) ?_
  refine lv_iconst (v := 2) hx hb dL_law_1186 (by decide) ?_
  refine lv_iadd hx hb dL_law_1187 ?_
  refine va_sld hx hb hX hbl hbA hS hv1 dL_law_1188 ?_
  refine lv_aload_n hx hb dL_law_1189 rfl (lv_at hl 1 rfl) ?_
  refine lv_iload hx hb dL_law_1190 (lv_at hl 5 rfl) ?_
  refine lv_iconst (v := 3) hx hb dL_law_1192 (by decide) ?_
  refine lv_iadd hx hb dL_law_1193 ?_
  refine va_sld hx hb hX hbl hbA hS hv2 dL_law_1194 ?_
  have hPc := hP.sub (ws' := (w_md gm cA um)) [41, 42, 43, 44, 45, 46, 47, 48, 49, 50, 51, 52, 53, 54, 55, 56] rfl
  have hDc := hD.sub (ws' := (w_md gm cA um)) [41, 42, 43, 44, 45, 46, 47, 48, 49, 50, 51, 52, 53, 54, 55, 56] (by decide) rfl
  have hFc := va_free (wc := (w_md gm cA um)) hD hS hA [41, 42, 43, 44, 45, 46, 47, 48, 49, 50, 51, 52, 53, 54, 55, 56] rfl
  refine va_calli (va_runV (As := [.int (xs (x4 + 1).toNatClampNeg), .int (xs (x4 + 2).toNatClampNeg), .int (xs (x4 + 3).toNatClampNeg)]) (rest := []) ⟨hx, hb, hml, hown, hts⟩ (c_X4_blend l dC dI cA gm _ um (xs (x4 + 1).toNatClampNeg) (xs (x4 + 2).toNatClampNeg) (xs (x4 + 3).toNatClampNeg) _ hw) (gcV 3 hts m753 m750 m751 m752 m24 rfl rfl (by decide +kernel) ⟨Nat.le_of_ble_eq_true rfl, Nat.le_of_ble_eq_true rfl⟩) ⟨xbl2, va_recv hK hPc (ci := 3) (q0 := 0) rfl rfl, fun U hU hW => ⟨rfl, by rw [hU], by rw [hU]; exact hPc, va_K.moved hW.alike hK, hDc.weaken (fun _ _ _ _ => trivial)⟩⟩ rfl rfl hl.1 rfl (lv_room (Nat.le_of_ble_eq_true rfl)) dL_law_1195 ⟨show (cells + 3) + 0 ≤ 601024 by omega, show (slots + 18) + 0 ≤ 7293000 by omega⟩) hS (fun q _ h => hFc q h) hFc (fun b6 u t H1 locs ht hvm hw hB hz1 hk1 hS => ?_)
  obtain ⟨um4, e_u⟩ : ∃ z, z = u := ⟨_, rfl⟩
  subst e_u
  obtain ⟨hP1, hK1, hD1⟩ := hB
  rw [ht] at hP1
  have hJ := va_join (wr := wG ga gl go cA n ua1 uL2 uo3) (w1 := w_md gm cA um4) hP hD [41, 42, 43, 44, 45, 46, 47, 48, 49, 50, 51, 52, 53, 54, 55, 56] [0, 1, 2, 3, 4, 5, 6, 7, 8, 9, 10, 11, 12, 13, 14, 15, 16, 17, 18, 19, 20, 21, 22, 23, 24, 25, 26, 27, 28, 29, 30, 31, 32, 33, 34, 35, 36, 37, 38, 39, 40] rfl rfl (by decide) (by decide) hk1 hFc hP1 hD1
  have hP : va_P (dC, dI) vwCl (wLaw ga gl go gm cA n ua1 uL2 uo3 um4) H1 := hJ.1.sub [0, 1, 2, 3, 4, 5, 6, 7, 8, 9, 10, 11, 12, 13, 14, 15, 16, 17, 18, 19, 20, 21, 22, 23, 24, 25, 26, 27, 28, 29, 30, 31, 32, 33, 34, 35, 36, 37, 38, 39, 40, 41, 42, 43, 44, 45, 46, 47, 48, 49, 50, 51, 52, 53, 54, 55, 56] rfl
  have hD : va_D A (wLaw ga gl go gm cA n ua1 uL2 uo3 um4) := hJ.2.sub [0, 1, 2, 3, 4, 5, 6, 7, 8, 9, 10, 11, 12, 13, 14, 15, 16, 17, 18, 19, 20, 21, 22, 23, 24, 25, 26, 27, 28, 29, 30, 31, 32, 33, 34, 35, 36, 37, 38, 39, 40, 41, 42, 43, 44, 45, 46, 47, 48, 49, 50, 51, 52, 53, 54, 55, 56] (by decide) rfl
  clear hP1 hD1 hK1 hk1 hz1 hFc hDc hPc ht hJ
  generalize H1 = H at hP hS ⊢
  refine lv_istore (lv' := [(6, .int b6), (5, .int k5), (0, .ref b), (1, .ref (ga 0)), (2, .ref (gm 0)), (3, .ref go), (4, .int x4)]) hx hb dL_law_1198 hl (by decide) rfl (fun ls hl => ?_)
  refine lv_aload_n hx hb dL_law_1200 rfl (lv_at hl 4 rfl) ?_
  have hPc := hP.sub (ws' := (w_md gm cA um4)) [41, 42, 43, 44, 45, 46, 47, 48, 49, 50, 51, 52, 53, 54, 55, 56] rfl
  refine vp_callSi (va_Run.run (va_runV (As := []) (rest := []) ⟨hx, hb, hml, hown, hts⟩ (c_X4_thrown l dC dI cA gm um4 _ hw) (gcV 0 hts m602 m599 m600 m601 m24 rfl rfl (by decide +kernel) ⟨Nat.le_of_ble_eq_true rfl, Nat.le_of_ble_eq_true rfl⟩) ⟨xbl1, va_recv hK hPc (ci := 3) (q0 := 0) rfl rfl, fun U hU hW => ⟨rfl, by rw [hU]; exact hPc, va_K.moved hW.alike hK⟩⟩ rfl rfl hl.1 rfl (lv_room (Nat.le_of_ble_eq_true rfl)) dL_law_1201 ⟨show (cells + 3 + 0) + 0 ≤ 601024 by omega, show (slots + 18 + 0) + 0 ≤ 7293000 by omega⟩)) (fun tt hw => ?_)
  clear hPc
  refine lv_iload hx hb dL_law_1204 (lv_at hl 1 rfl) ?_
  refine lv_icmp_eq (tgt := 1211) hx hb dL_law_1206 (by decide) (fun c1 => ?_) (fun c1 => absurd (And.left hw) c1)
  replace hw := And.right hw
  refine lv_iload hx hb dL_law_1211 (lv_at hl 1 rfl) ?_
  have hq := And.left hw
  replace hw := And.right hw
  have hfin : W p l e room_1 s m #[Value.ref b] below meth c H locs (cells + 3 + 0) (slots + 18 + 0) (lw_Z below #[Value.ref b] s) (F0 m 1228 ls []) := by
    refine lv_goto (tgt := 1231) hx hb dL_law_1228 (by decide) ?_
    exact hnext _ _ _ _ hw _ _ (by omega) (by omega) _ _ _ hP hD hS (lv_sub hl [2, 3, 4, 5, 6] rfl)
  refine lv_if_ne (tgt := 1228) hx hb dL_law_1213 (by decide) (fun c2 => hfin) (fun c2 => ?_)
  refine lv_aload_n hx hb dL_law_1216 rfl (lv_at hl 5 rfl) ?_
  refine lv_iconst (v := 0) hx hb dL_law_1217 (by decide) ?_
  refine va_lald hx hb hK hP 40 3 rfl rfl (xin (by decide)) dL_law_1218 ?_
  refine lv_iload hx hb dL_law_1219 (lv_at hl 0 rfl) ?_
  refine lv_i2l hx hb dL_law_1221 rfl ?_
  refine W.lcmp hx hb dL_law_1222 ?_
  exact lv_if_eq (tgt := 1228) hx hb dL_law_1223 (by decide) (fun c3 => hfin) (fun c3 => absurd (xlcmp (hq c2)) c3)
