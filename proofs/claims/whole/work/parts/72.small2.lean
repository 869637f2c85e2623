/-! stays, cover, point, alpha, paper, separable, blend -/
theorem bI_c (x : Int32) : bI x = 0 ∨ bI x = 1 := by
  unfold bI
  split
  · exact Or.inl rfl
  · exact Or.inr rfl
theorem nar_0 : vp_nar .boolean 0 = 0 := rfl
theorem nar_1 : vp_nar .boolean 1 = 1 := rfl
theorem case_stays {L : Nat} {xs : Nat → Int32} {w h n : Nat} {NX : NT} {x4 : Int32} {ua : U2} {uL : U3} {uo : Nat → Int64} {um : U2} (hR : RR w h n ua uL um) (i1 : vp_in (x4 + 1) L) (i2 : vp_in (x4 + 2) L) (hN : ∀ ua' uL' uo' um', RR w h n ua' uL' um' → NX ua' uL' uo' um') : wp_case_stays L xs n NX x4 ua uL uo um := by
  obtain ⟨d, rg, bd, cel, kn, mk, mB, cov, t, sy, md, hI, hC, hM, hG⟩ := hR
  have hRt : ∀ v, RR w h n ua uL (st um 0 0 v) := fun v => ⟨d, rg, bd, cel, kn, mk, mB, cov, t, sy, md, hI, hC, hM.thr, hG.thr⟩
  unfold wp_case_stays wp_L_stays wp_X3_stays
  refine ⟨i1, i2, ?_⟩
  obtain ⟨z, hz, ez⟩ := ex_iI (xs (x4 + 1).toNatClampNeg)
  rw [ez]
  generalize hb : bI (xs (x4 + 2).toNatClampNeg) = b
  have hb2 : b = 0 ∨ b = 1 := by rw [← hb]; exact bI_c _
  clear hb
  refine q_needBand hz (fun hd v1 e1 => ?_) (fun hd => ?_)
  · obtain ⟨k, hk, ek⟩ := hd.n
    have mod : ∀ (ua1 : U2) (bb : Bool) (v : Int32), (v = 0 ↔ bb = false) → vp_nar .boolean b = v → ua1 = st ua 0 5 (ua1 0 5) → SYZ (ua1 0 5) (fun j => if j = k then bb else sy j) → wp_X4_stays um (iI z) b (fun um4 => wp_X4_thrown um4 (fun tt => (tt = 0 ∧ NX ua1 uL uo um4))) := by
      intro ua1 bb v hvb hv e2 hsy
      unfold wp_X4_stays
      refine q_isBand hz (fun _ => bf (by decide) ?_) (fun q => absurd hd q)
      rw [ek]
      unfold wp_X4_stays_13
      intro u e
      refine nt (by rw [e, st_at]) ⟨i3i hk, fun u4 e4 => ?_⟩
      rw [i3c hk, hv] at e4
      subst e4 e
      refine ⟨by rw [st_row (by decide), st_at], hN _ _ _ _ ?_⟩
      obtain ⟨hc0, hc1, hc2, hcL⟩ := hC
      obtain ⟨a0, a1, a2, a3, a4, a5, a6, a7, a8, a9⟩ := hc0
      obtain ⟨hm0, hm1, hm8, hm9, hm10, hm11⟩ := hM
      refine ⟨d, rg, bd, cel, kn, mk, mB, cov, t, fun j => if j = k then bb else sy j, md, hI, ⟨⟨?_, ?_, ?_, ?_, ?_, hsy, ?_, ?_, ?_, ?_⟩, ?_, ?_, hcL⟩, ⟨?_, ?_, ?_, ?_, ?_, ?_⟩, hG.thr.row (by decide) (by decide) (by decide) (by decide) (by decide) (by decide)⟩
      · rw [e2, st_el (by decide)]; exact a0
      · rw [e2, st_el (by decide)]; exact a1
      · rw [e2, st_el (by decide)]; exact a2
      · rw [e2, st_el (by decide)]; exact a3
      · rw [e2, st_el (by decide)]; exact a4
      · rw [e2, st_el (by decide)]; exact a6
      · rw [e2, st_el (by decide)]; exact a7
      · rw [e2, st_el (by decide)]; exact a8
      · rw [e2, st_el (by decide)]; exact a9
      · rw [e2, st_row (by decide)]; exact hc1
      · rw [e2, st_row (by decide)]; exact hc2
      · rw [st_row (by decide)]; exact hm0.eq (fun j hj => st_el hj)
      · rw [st_row (by decide), st_row (by decide)]; exact hm1
      · rw [st_row (by decide), st_row (by decide)]; exact hm8
      · rw [st_row (by decide), st_row (by decide)]; exact hm9
      · rw [st_row (by decide), st_row (by decide)]; exact hm10
      · intro j hj
        show _ ↔ (if j = k then bb else sy j) = false
        by_cases q : j = k
        · rw [if_pos q, q, st_at]; exact hvb
        · rw [if_neg q, st_el q, st_row (by decide)]; exact hm11 j hj
    have hup := hC.1.2.2.2.2.2.1.up hk
    rw [ek] at e1
    subst e1
    rcases hb2 with rfl | rfl
    · refine bt rfl (fun ua2 e2 => mod ua2 false 0 ⟨fun _ => rfl, fun _ => rfl⟩ nar_0 ?_ ?_)
      · rw [e2, st_at]
      · rw [e2, st_at]; exact hup.2
    · refine bf (by decide) (fun ua2 e2 => mod ua2 true 1 ⟨fun q => absurd q (by decide), fun q => absurd q (by decide)⟩ nar_1 ?_ ?_)
      · rw [e2, st_at]
      · rw [e2, st_at]; exact hup.1
  · refine ⟨rfl, ?_⟩
    unfold wp_X4_stays
    refine q_isBand hz (fun q => absurd q hd) (fun _ => bt rfl ?_)
    unfold wp_X4_stays_13
    intro u e
    subst e
    exact nf (by rw [st_at]; decide) ⟨st_at, hN _ _ _ _ (hRt 1)⟩
theorem e_at {ua : U2} {w a b : Nat} (e : ua 0 0 = nI w) : (nI b * ua 0 0) + nI a = nI (b * w + a) := by rw [e, nI_mul, nI_add]
theorem e_pm (a b : Nat) : (12 * nI b) + nI a = nI (12 * b + a) := by
  show nI 12 * nI b + nI a = _
  rw [nI_mul, nI_add]
theorem case_cover {L : Nat} {xs : Nat → Int32} {w h n : Nat} {NX : NT} {x4 : Int32} {ua : U2} {uL : U3} {uo : Nat → Int64} {um : U2} (hR : RR w h n ua uL um) (i1 : vp_in (x4 + 1) L) (i2 : vp_in (x4 + 2) L) (i3 : vp_in (x4 + 3) L) (hN : ∀ ua' uL' uo' um', RR w h n ua' uL' um' → NX ua' uL' uo' um') : wp_case_cover L xs n NX x4 ua uL uo um := by
  obtain ⟨d, rg, bd, cel, kn, mk, mB, cov, t, sy, md, hI, hC, hM, hG⟩ := hR
  have hRt : ∀ v, RR w h n ua uL (st um 0 0 v) := fun v => ⟨d, rg, bd, cel, kn, mk, mB, cov, t, sy, md, hI, hC, hM.thr, hG.thr⟩
  obtain ⟨⟨I1, I2, I3, I4, I5, I6⟩, J2, J3, J4, J5, J6⟩ := hI
  unfold wp_case_cover wp_L_cover wp_X3_cover
  refine ⟨i1, i2, i3, ?_⟩
  obtain ⟨x, hx, ex⟩ := ex_iI (xs (x4 + 1).toNatClampNeg)
  obtain ⟨y, hy, ey⟩ := ex_iI (xs (x4 + 2).toNatClampNeg)
  obtain ⟨v, hv, ev⟩ := ex_iI (xs (x4 + 3).toNatClampNeg)
  rw [ex, ey, ev]
  have bad : ∀ (s : Int32) (P : U2 → Prop), ¬ s = 0 → P (st um 0 0 s) → wp_X4_cover_26 P um (iI x) (iI y) (iI v) s := by
    intro s P hs hP
    unfold wp_X4_cover_26
    intro u e
    subst e
    exact nf (by rw [st_at]; exact hs) hP
  refine q_needByte hv (fun hb => q_needPoint hx hy I2 I4 hC.1.1 hC.1.2.1 (fun hp => ?_) (fun hp => ?_)) (fun hb => ?_)
  · obtain ⟨a, b, ha, hb', ea, eb⟩ := hp.n
    have hi := yx_lt I5 ha hb'
    rw [ea, eb, e_at hC.1.1]
    refine ⟨vin hi (by omega), fun ua1 e1 => ?_⟩
    rw [ncl (by omega)] at e1
    unfold wp_X4_cover
    rw [← ea, ← eb]
    refine q_isByte hv (fun _ => nf (by decide) (q_isPoint hx hy I2 I4 hM.1.1 hM.1.2.1 (fun _ => nf (by decide) ?_) (fun q => absurd hp q))) (fun q => absurd hb q)
    unfold wp_X4_cover_26
    intro u e
    refine nt (by rw [e, st_at]) ?_
    unfold wp_X4_pointAt
    rw [ea, eb, e_pm]
    refine ⟨vin (by omega) (by omega), fun u5 e5 => ?_⟩
    rw [ncl (by omega)] at e5
    subst e5 e
    refine ⟨by rw [st_row (by decide), st_at], hN _ _ _ _ ?_⟩
    obtain ⟨hc0, hc1, hc2, hcL⟩ := hC
    obtain ⟨hm0, hm1, hm8, hm9, hm10, hm11⟩ := hM
    have hcv : ∀ p, Bt (if p = 12 * b + a then v else cov p) := fun p => by split; exact hb; exact J5 p
    refine ⟨d, rg, bd, cel, kn, mk, mB, fun p => if p = 12 * b + a then v else cov p, t, sy, md, ⟨⟨I1, I2, I3, I4, I5, I6⟩, J2, J3, J4, hcv, J6⟩, ⟨?_, ?_, ?_, hcL⟩, ⟨?_, ?_, ?_, ?_, ?_, ?_⟩, hG.thr.row (by decide) (by decide) (by decide) (by decide) (by decide) (by decide)⟩
    · rw [e1, st_row (by decide)]; exact hc0
    · intro i hi'
      show _ = iI (if pt w i = 12 * b + a then v else cov (pt w i))
      by_cases q : i = b * w + a
      · rw [q, pt_yx ha, if_pos rfl, e1, st_at]
      · rw [if_neg (fun q2 => q (pt_inj I1 I2 I5 hi' hi (by rw [pt_yx ha]; exact q2))), e1, st_el q]; exact hc1 i hi'
    · rw [e1, st_row (by decide)]; exact hc2
    · rw [st_row (by decide)]; exact hm0.eq (fun j hj => st_el hj)
    · rw [st_row (by decide), st_row (by decide)]; exact hm1
    · rw [st_row (by decide), st_row (by decide)]; exact hm8
    · intro p hp'
      show _ = iI (if p = 12 * b + a then v else cov p)
      by_cases q : p = 12 * b + a
      · rw [if_pos q, q, st_at]
      · rw [if_neg q, st_el q, st_row (by decide)]; exact hm9 p hp'
    · rw [st_row (by decide), st_row (by decide)]; exact hm10
    · rw [st_row (by decide), st_row (by decide)]; exact hm11
  · refine ⟨fun q => absurd q (by decide), fun _ => ⟨rfl, ?_⟩⟩
    unfold wp_X4_cover
    exact q_isByte hv (fun _ => nf (by decide) (q_isPoint hx hy I2 I4 hM.1.1 hM.1.2.1 (fun q => absurd q hp) (fun _ => nt rfl (bad 2 _ (by decide) ⟨st_at, hN _ _ _ _ (hRt 2)⟩)))) (fun q => absurd hb q)
  · refine ⟨fun _ => ?_, fun q => absurd rfl q⟩
    unfold wp_X4_cover
    exact q_isByte hv (fun q => absurd q hb) (fun _ => nt rfl (bad 1 _ (by decide) ⟨st_at, hN _ _ _ _ (hRt 1)⟩))
theorem nI_m1 {k : Nat} (h : 1 ≤ k) : nI k - 1 = nI (k - 1) := by
  have := nI_pred (k - 1)
  rw [show k - 1 + 1 = k by omega] at this
  exact this
theorem q_here {n rg : Nat} {ua : U2} {P : Prop} (e : ua 0 8 = nI rg) (h1 : 1 ≤ rg) (h2 : rg ≤ 6) (h : P) : wp_X3_here n (rg - 1) ua P := by
  unfold wp_X3_here
  rw [e, nI_m1 h1]
  exact ⟨vin (by omega) (by omega), ncl (by omega), h⟩
theorem case_point {L : Nat} {xs : Nat → Int32} {w h n : Nat} {NX : NT} {x4 : Int32} {ua : U2} {uL : U3} {uo : Nat → Int64} {um : U2} (hR : RR w h n ua uL um) (i1 : vp_in (x4 + 1) L) (i2 : vp_in (x4 + 2) L) (i3 : vp_in (x4 + 3) L) (hN : ∀ ua' uL' uo' um', RR w h n ua' uL' um' → NX ua' uL' uo' um') : wp_case_point L xs n NX x4 ua uL uo um := by
  obtain ⟨d, rg, bd, cel, kn, mk, mB, cov, t, sy, md, hI, hC, hM, hG⟩ := hR
  have hRt : ∀ v, RR w h n ua uL (st um 0 0 v) := fun v => ⟨d, rg, bd, cel, kn, mk, mB, cov, t, sy, md, hI, hC, hM.thr, hG.thr⟩
  obtain ⟨⟨I1, I2, I3, I4, I5, I6⟩, ⟨J1, J2, J3, J4, J5, J6⟩, K1, K2, K3, K4⟩ := hI
  unfold wp_case_point wp_L_point wp_X3_point
  refine ⟨i1, i2, i3, rg - 1, by omega, ?_⟩
  obtain ⟨x, hx, ex⟩ := ex_iI (xs (x4 + 1).toNatClampNeg)
  obtain ⟨y, hy, ey⟩ := ex_iI (xs (x4 + 2).toNatClampNeg)
  obtain ⟨v, hv, ev⟩ := ex_iI (xs (x4 + 3).toNatClampNeg)
  rw [ex, ey, ev]
  have bad : ∀ (P : Int32 → U2 → Prop), P 0 (st um 0 0 1) → wp_X4_point_21 P um (iI x) (iI y) (iI v) := by
    intro P hP
    unfold wp_X4_point_21 wp_X4_point_22
    intro u e
    subst e
    exact bf (by rw [st_at]; decide) hP
  refine q_needPoint hx hy I2 I4 hC.1.1 hC.1.2.1 (fun hp => q_needBand hv (fun hd => q_here hC.1.2.2.2.2.2.2.2.2.1 J1 J4 ?_) (fun hd => ?_)) (fun hp => ?_)
  · obtain ⟨a, b, ha, hb', ea, eb⟩ := hp.n
    obtain ⟨k, hk, ek⟩ := hd.n
    have hi := yx_lt I5 ha hb'
    have hcc := (hC.2.2.2.2 (rg - 1) (by omega)).2 _ hi
    have hcm := (hG (rg - 1) (by omega)).2 (12 * b + a) (by omega)
    rw [pt_yx ha] at hcc
    have hcb := K1 (rg - 1) (12 * b + a)
    unfold wp_X0_colourAt
    unfold wp_X4_point
    have m5 := hM.1.2.2.2.2.1
    rw [ea, eb, e_at hC.1.1]
    refine ⟨vin hi (by omega), ?_⟩
    rw [ncl (by omega), hcc.2.2.1, ek]
    refine q_bandF hcb.cu hk ?_
    rw [← ea, ← eb, ← ek]
    refine q_isPoint hx hy I2 I4 hM.1.1 hM.1.2.1 (fun _ => bf (by decide) (q_isBand hv (fun _ => bf (by decide) ?_) (fun q => absurd hd q))) (fun q => absurd hp q)
    rw [ea, eb, ek]
    unfold wp_X4_point_22
    intro u e
    refine bt (by rw [e, st_at]; decide) ?_
    unfold wp_X4_here wp_X4_pointAt
    rw [e_pm, show u 0 5 = nI rg by rw [e, st_el (by decide)]; exact m5, nI_m1 J1]
    have e2 : ((432 * nI (rg - 1)) + (3 * nI (12 * b + a))) + nI k = nI (3 * (144 * (rg - 1) + (12 * b + a)) + k) := by
      show ((nI 432 * nI (rg - 1)) + (nI 3 * nI (12 * b + a))) + nI k = _
      rw [nI_mul, nI_mul, nI_add, nI_add]
      congr 1
      omega
    dsimp only
    rw [e2, ncl (by omega)]
    refine ⟨vin (by omega) (by omega), ?_⟩
    rw [show u 5 = um 5 by rw [e, st_row (by decide)], hcm.2.2.1 k hk, e]
    exact ⟨st_at, fun _ => o_0, hN _ _ _ _ (hRt 0)⟩
  · refine ⟨rfl, ?_⟩
    unfold wp_X4_point
    exact q_isPoint hx hy I2 I4 hM.1.1 hM.1.2.1 (fun _ => bf (by decide) (q_isBand hv (fun q => absurd q hd) (fun _ => bt rfl (bad _ ⟨st_at, fun q => absurd q (by decide), hN _ _ _ _ (hRt 1)⟩)))) (fun q => absurd hp q)
  · refine ⟨rfl, ?_⟩
    unfold wp_X4_point
    exact q_isPoint hx hy I2 I4 hM.1.1 hM.1.2.1 (fun q => absurd q hp) (fun _ => bt rfl (bad _ ⟨st_at, fun q => absurd q (by decide), hN _ _ _ _ (hRt 1)⟩))
theorem case_paper {L : Nat} {xs : Nat → Int32} {w h n : Nat} {NX : NT} {x4 : Int32} {ua : U2} {uL : U3} {uo : Nat → Int64} {um : U2} (hR : RR w h n ua uL um) (i1 : vp_in (x4 + 1) L) (i2 : vp_in (x4 + 2) L) (i3 : vp_in (x4 + 3) L) (hN : ∀ ua' uL' uo' um', RR w h n ua' uL' um' → NX ua' uL' uo' um') : wp_case_paper L xs n NX x4 ua uL uo um := by
  obtain ⟨d, rg, bd, cel, kn, mk, mB, cov, t, sy, md, hI, hC, hM, hG⟩ := hR
  have hRt : ∀ v, RR w h n ua uL (st um 0 0 v) := fun v => ⟨d, rg, bd, cel, kn, mk, mB, cov, t, sy, md, hI, hC, hM.thr, hG.thr⟩
  obtain ⟨⟨I1, I2, I3, I4, I5, I6⟩, ⟨J1, J2, J3, J4, J5, J6⟩, K1, K2, K3, K4⟩ := hI
  unfold wp_case_paper wp_L_paper wp_X3_paper
  refine ⟨i1, i2, i3, rg - 1, by omega, ?_⟩
  obtain ⟨x, hx, ex⟩ := ex_iI (xs (x4 + 1).toNatClampNeg)
  obtain ⟨y, hy, ey⟩ := ex_iI (xs (x4 + 2).toNatClampNeg)
  obtain ⟨v, hv, ev⟩ := ex_iI (xs (x4 + 3).toNatClampNeg)
  rw [ex, ey, ev]
  have bad : ∀ (P : Int32 → U2 → Prop), P 0 (st um 0 0 1) → wp_X4_paper_21 P um (iI x) (iI y) (iI v) := by
    intro P hP
    unfold wp_X4_paper_21 wp_X4_paper_22
    intro u e
    subst e
    exact bf (by rw [st_at]; decide) hP
  have h8 := hC.1.2.2.2.2.2.2.2.2.1
  refine q_needPoint hx hy I2 I4 hC.1.1 hC.1.2.1 (fun hp => q_needBand hv (fun hd v1 e1 => q_here h8 J1 J4 ?_) (fun hd => ?_)) (fun hp => ?_)
  · obtain ⟨a, b, ha, hb', ea, eb⟩ := hp.n
    obtain ⟨k, hk, ek⟩ := hd.n
    have hi := yx_lt I5 ha hb'
    have hcc := (hC.2.2.2.2 (rg - 1) (by omega)).2 _ hi
    have hcm := (hG (rg - 1) (by omega)).2 (12 * b + a) (by omega)
    rw [pt_yx ha] at hcc
    have hcb := K1 (rg - 1) (12 * b + a)
    have m5 := hM.1.2.2.2.2.1
    rw [ea, eb, e_at hC.1.1] at e1
    subst e1
    refine q_whole hi I6 hcc.2.1 hcc.2.2.2.1 (hcb 3 (by omega)) (hcb 7 (by omega)) (q_here h8 J1 J4 ?_)
    unfold wp_X0_colourAt
    refine ⟨vin hi (by omega), ?_⟩
    rw [ncl (by omega), hcc.2.2.1, ek]
    refine q_bandF hcb.cu hk (q_X2_mul (hcb.cu k hk) hcb.wa ?_)
    unfold wp_X4_paper
    rw [← ek]
    refine q_isPoint hx hy I2 I4 hM.1.1 hM.1.2.1 (fun _ => bf (by decide) (q_isBand hv (fun _ => bf (by decide) ?_) (fun q => absurd hd q))) (fun q => absurd hp q)
    rw [ea, eb, ek]
    unfold wp_X4_paper_22
    intro u e
    refine bt (by rw [e, st_at]; decide) ?_
    unfold wp_X4_here wp_X4_pointAt
    rw [e_pm, show u 0 5 = nI rg by rw [e, st_el (by decide)]; exact m5, nI_m1 J1]
    have e2 : ((432 * nI (rg - 1)) + (3 * nI (12 * b + a))) + nI k = nI (3 * (144 * (rg - 1) + (12 * b + a)) + k) := by
      show ((nI 432 * nI (rg - 1)) + (nI 3 * nI (12 * b + a))) + nI k = _
      rw [nI_mul, nI_mul, nI_add, nI_add]
      congr 1
      omega
    refine q_alphaOf (by omega) (by rw [e, st_row (by decide)]; exact hcm.2.1) (by rw [e, st_row (by decide)]; exact hcm.2.2.2.1) (hcb 3 (by omega)) (hcb 7 (by omega)) ?_
    dsimp only
    rw [e2, ncl (by omega)]
    refine ⟨vin (by omega) (by omega), ?_⟩
    rw [show u 5 = um 5 by rw [e, st_row (by decide)], hcm.2.2.1 k hk]
    refine q_X4_mul (hcb (4 + k) (by omega)) hcb.wa ?_
    rw [e]
    exact ⟨st_at, fun _ => o_0, hN _ _ _ _ (hRt 0)⟩
  · refine ⟨rfl, ?_⟩
    unfold wp_X4_paper
    exact q_isPoint hx hy I2 I4 hM.1.1 hM.1.2.1 (fun _ => bf (by decide) (q_isBand hv (fun q => absurd q hd) (fun _ => bt rfl (bad _ ⟨st_at, fun q => absurd q (by decide), hN _ _ _ _ (hRt 1)⟩)))) (fun q => absurd hp q)
  · refine ⟨rfl, ?_⟩
    unfold wp_X4_paper
    exact q_isPoint hx hy I2 I4 hM.1.1 hM.1.2.1 (fun q => absurd q hp) (fun _ => bt rfl (bad _ ⟨st_at, fun q => absurd q (by decide), hN _ _ _ _ (hRt 1)⟩))
theorem case_alpha {L : Nat} {xs : Nat → Int32} {w h n : Nat} {NX : NT} {x4 : Int32} {ua : U2} {uL : U3} {uo : Nat → Int64} {um : U2} (hR : RR w h n ua uL um) (i1 : vp_in (x4 + 1) L) (i2 : vp_in (x4 + 2) L) (i3 : vp_in (x4 + 3) L) (hN : ∀ ua' uL' uo' um', RR w h n ua' uL' um' → NX ua' uL' uo' um') : wp_case_alpha L xs n NX x4 ua uL uo um := by
  obtain ⟨d, rg, bd, cel, kn, mk, mB, cov, t, sy, md, hI, hC, hM, hG⟩ := hR
  have hRt : ∀ v, RR w h n ua uL (st um 0 0 v) := fun v => ⟨d, rg, bd, cel, kn, mk, mB, cov, t, sy, md, hI, hC, hM.thr, hG.thr⟩
  obtain ⟨⟨I1, I2, I3, I4, I5, I6⟩, ⟨J1, J2, J3, J4, J5, J6⟩, K1, K2, K3, K4⟩ := hI
  unfold wp_case_alpha wp_L_alpha wp_X3_alpha
  refine ⟨i1, i2, i3, rg - 1, by omega, ?_⟩
  obtain ⟨x, hx, ex⟩ := ex_iI (xs (x4 + 1).toNatClampNeg)
  obtain ⟨y, hy, ey⟩ := ex_iI (xs (x4 + 2).toNatClampNeg)
  obtain ⟨v, hv, ev⟩ := ex_iI (xs (x4 + 3).toNatClampNeg)
  rw [ex, ey, ev]
  have bad : ∀ (s : Int32) (P : Int32 → U2 → Prop), ¬ s ≤ 0 → P 0 (st um 0 0 s) → wp_X4_alpha_28 P um (iI x) (iI y) (iI v) s := by
    intro s P hs hP
    unfold wp_X4_alpha_28
    intro u e
    subst e
    exact bf (by rw [st_at]; exact hs) hP
  have h8 := hC.1.2.2.2.2.2.2.2.2.1
  have h3 := hC.1.2.2.2.1
  refine q_needPoint hx hy I2 I4 hC.1.1 hC.1.2.1 (fun hp v1 e1 => ?_) (fun hp => ?_)
  · obtain ⟨a, b, ha, hb', ea, eb⟩ := hp.n
    have hi := yx_lt I5 ha hb'
    have hcc := (hC.2.2.2.2 (rg - 1) (by omega)).2 _ hi
    have hcm := (hG (rg - 1) (by omega)).2 (12 * b + a) (by omega)
    have hc1 := hC.2.1 _ hi
    have hc2 := hC.2.2.1 _ hi
    have hm8 := hM.2.2.1 (12 * b + a) (by omega)
    have hm9 := hM.2.2.2.1 (12 * b + a) (by omega)
    have hm6 := hM.1.2.2.2.2.2.1
    rw [pt_yx ha] at hcc hc1 hc2
    have hcb := K1 (rg - 1) (12 * b + a)
    have m5 := hM.1.2.2.2.2.1
    rw [ea, eb, e_at hC.1.1] at e1
    subst e1
    have ok : 0 ≤ v → v ≤ 4 → ∀ r : Int, (v = 0 → r = cel (rg - 1) (12 * b + a) 7) → (v = 1 → r = cel (rg - 1) (12 * b + a) 8) → (v = 2 → r = waS (cel (rg - 1) (12 * b + a))) → (v = 3 → r = if mk = true then mB (12 * b + a) else 255) → (v = 4 → r = cov (12 * b + a)) → wp_X4_alpha um (iI x) (iI y) (iI v) (fun b6 um4 => wp_X4_thrown um4 (fun tt => (tt = 0 ∧ (((0 : Int32) = 0 → vp_updL uo 0 (iI r).toInt64 0 = b6.toInt64) ∧ NX ua uL (vp_updL uo 0 (iI r).toInt64) um4)))) := by
      intro q1 q2 r r0 r1 r2 r3 r4
      have fin : ∀ r' : Int, r' = r → wp_X4_thrown (st um 0 0 0) (fun tt => (tt = 0 ∧ (((0 : Int32) = 0 → vp_updL uo 0 (iI r).toInt64 0 = (iI r').toInt64) ∧ NX ua uL (vp_updL uo 0 (iI r).toInt64) (st um 0 0 0)))) := by
        intro r' e
        rw [e]
        exact ⟨st_at, fun _ => o_0, hN _ _ _ _ (hRt 0)⟩
      unfold wp_X4_alpha
      refine q_isPoint hx hy I2 I4 hM.1.1 hM.1.2.1 (fun _ => nf (by decide) ?_) (fun q => absurd hp q)
      refine w_lt (b := 0) hv (by unfold Sm; omega) (fun q => by omega) (fun _ => w_le (b := 4) hv (by unfold Sm; omega) (fun _ => ?_) (fun q => by omega))
      rw [ea, eb]
      unfold wp_X4_alpha_28
      intro u e
      refine bt (by rw [e, st_at]; decide) ?_
      unfold wp_X4_here wp_X4_pointAt
      rw [e_pm, show u 0 5 = nI rg by rw [e, st_el (by decide)]; exact m5, nI_m1 J1]
      intro v5 e5
      rw [e_cell] at e5
      subst e5
      rw [ncl (show 12 * b + a < 2147483648 by omega), ncl (show 144 * (rg - 1) + (12 * b + a) < 2147483648 by omega)]
      have g6 : u 0 6 = um 0 6 := by rw [e, st_el (by decide)]
      have g8 : u 8 = um 8 := by rw [e, st_row (by decide)]
      have g9 : u 9 = um 9 := by rw [e, st_row (by decide)]
      have gg6 : u 6 = um 6 := by rw [e, st_row (by decide)]
      have gg7 : u 7 = um 7 := by rw [e, st_row (by decide)]
      have gg4 : u 4 = um 4 := by rw [e, st_row (by decide)]
      rw [g6, g8, g9, gg6, gg7, hm8, hm9, hcm.2.2.2.1, hcm.2.2.2.2]
      rw [← e] at fin
      refine w_le (a := 3) (by unfold Sm; omega) hv (fun q3 => ?_) (fun q3 => ?_)
      · refine w_ne (b := 4) hv (by unfold Sm; omega) (fun q4 => ⟨vin (by omega) (by omega), fin _ (r4 q4).symm⟩) (fun q4 => ?_)
        have r3 := r3 (by omega)
        refine ⟨fun q5 => fin 255 ?_, fun q5 => ⟨vin (by omega) (by omega), fin _ ?_⟩⟩
        · rw [r3, hm6.mp q5, if_neg (by decide)]
        · rw [r3, mk_t hm6 q5, if_pos rfl]
      · refine w_ne (b := 0) hv (by unfold Sm; omega) (fun q4 => ⟨vin (by omega) (by omega), fin _ (r0 q4).symm⟩) (fun q4 => ?_)
        refine w_ne (b := 1) hv (by unfold Sm; omega) (fun q5 => ⟨vin (by omega) (by omega), fin _ (r1 q5).symm⟩) (fun q5 => ?_)
        exact q_alphaOf (by omega) (by rw [gg4]; exact hcm.2.1) (by rw [gg6]; exact hcm.2.2.2.1) (hcb 3 (by omega)) (hcb 7 (by omega)) (fin _ (r2 (by omega)).symm)
    have hvi := vin (N := n) hi (by omega)
    have hcl := ncl (show b * w + a < 2147483648 by omega)
    refine w_eq (b := 0) hv (by unfold Sm; omega) (fun q => q_here h8 J1 J4 ⟨hvi, ?_⟩) (fun q0 => ?_)
    · rw [hcl, hcc.2.2.2.1]
      exact ok (by omega) (by omega) _ (fun _ => rfl) (fun _ => by omega) (fun _ => by omega) (fun _ => by omega) (fun _ => by omega)
    refine w_eq (b := 1) hv (by unfold Sm; omega) (fun q => q_here h8 J1 J4 ⟨hvi, ?_⟩) (fun q1 => ?_)
    · rw [hcl, hcc.2.2.2.2]
      exact ok (by omega) (by omega) _ (fun _ => by omega) (fun _ => rfl) (fun _ => by omega) (fun _ => by omega) (fun _ => by omega)
    refine w_eq (b := 2) hv (by unfold Sm; omega) (fun q => q_here h8 J1 J4 (q_whole hi I6 hcc.2.1 hcc.2.2.2.1 (hcb 3 (by omega)) (hcb 7 (by omega)) ?_)) (fun q2 => ?_)
    · exact ok (by omega) (by omega) _ (fun _ => by omega) (fun _ => by omega) (fun _ => rfl) (fun _ => by omega) (fun _ => by omega)
    refine w_eq (b := 3) hv (by unfold Sm; omega) (fun q => ⟨fun q5 => ?_, fun q5 => ⟨hvi, ?_⟩⟩) (fun q3 => ?_)
    · exact ok (by omega) (by omega) 255 (fun _ => by omega) (fun _ => by omega) (fun _ => by omega) (fun _ => by rw [h3.mp q5, if_neg (by decide)]) (fun _ => by omega)
    · rw [hcl, hc2]
      exact ok (by omega) (by omega) _ (fun _ => by omega) (fun _ => by omega) (fun _ => by omega) (fun _ => by rw [mk_t h3 q5, if_pos rfl]) (fun _ => by omega)
    refine w_eq (b := 4) hv (by unfold Sm; omega) (fun q => ⟨hvi, ?_⟩) (fun q4 => ?_)
    · rw [hcl, hc1]
      exact ok (by omega) (by omega) _ (fun _ => by omega) (fun _ => by omega) (fun _ => by omega) (fun _ => by omega) (fun _ => rfl)
    refine ⟨fun q => absurd q (by decide), fun _ => ⟨rfl, ?_⟩⟩
    unfold wp_X4_alpha wp_X4_alpha_23
    refine q_isPoint hx hy I2 I4 hM.1.1 hM.1.2.1 (fun _ => nf (by decide) ?_) (fun q => absurd hp q)
    have bb := bad 2 (fun b6 um4 => wp_X4_thrown um4 (fun tt => (tt = 2 ∧ (((2 : Int32) = 0 → uo 0 = b6.toInt64) ∧ NX ua uL uo um4)))) (by decide) ⟨st_at, fun q => absurd q (by decide), hN _ _ _ _ (hRt 2)⟩
    exact w_lt (b := 0) hv (by unfold Sm; omega) (fun _ => bb) (fun _ => w_le (b := 4) hv (by unfold Sm; omega) (fun q => by omega) (fun _ => bb))
  · refine ⟨fun _ => ?_, fun q => absurd rfl q⟩
    unfold wp_X4_alpha
    exact q_isPoint hx hy I2 I4 hM.1.1 hM.1.2.1 (fun q => absurd q hp) (fun _ => nt rfl (bad 1 _ (by decide) ⟨st_at, fun q => absurd q (by decide), hN _ _ _ _ (hRt 1)⟩))
theorem case_separable {L : Nat} {xs : Nat → Int32} {w h n : Nat} {NX : NT} {x4 : Int32} {ua : U2} {uL : U3} {uo : Nat → Int64} {um : U2} (hR : RR w h n ua uL um) (i1 : vp_in (x4 + 1) L) (i2 : vp_in (x4 + 2) L) (i3 : vp_in (x4 + 3) L) (hN : ∀ ua' uL' uo' um', RR w h n ua' uL' um' → NX ua' uL' uo' um') : wp_case_separable L xs n NX x4 ua uL uo um := by
  obtain ⟨d, rg, bd, cel, kn, mk, mB, cov, t, sy, md, hI, hC, hM, hG⟩ := hR
  have hRt : ∀ v, RR w h n ua uL (st um 0 0 v) := fun v => ⟨d, rg, bd, cel, kn, mk, mB, cov, t, sy, md, hI, hC, hM.thr, hG.thr⟩
  unfold wp_case_separable wp_L_separable wp_X3_separable
  refine ⟨i1, i2, i3, ?_⟩
  obtain ⟨m, hm, em⟩ := ex_iI (xs (x4 + 1).toNatClampNeg)
  obtain ⟨b, hb, eb⟩ := ex_iI (xs (x4 + 2).toNatClampNeg)
  obtain ⟨s, hs, es⟩ := ex_iI (xs (x4 + 3).toNatClampNeg)
  rw [em, eb, es]
  have B : ∀ (P : Int32 → U2 → Prop), P 0 (st um 0 0 1) → wp_X4_separable_25 P um (iI m) (iI b) (iI s) := by
    intro P hP
    unfold wp_X4_separable_25 wp_X4_separable_30
    intro u e
    subst e
    exact bf (by rw [st_at]; decide) hP
  have bad : ¬ (((0 ≤ m ∧ m ≤ 11) ∧ Bt b) ∧ Bt s) → wp_X4_separable um (iI m) (iI b) (iI s) (fun b6 um4 => wp_X4_thrown um4 (fun tt => (tt = 1 ∧ (((1 : Int32) = 0 → uo 0 = b6.toInt64) ∧ NX ua uL uo um4)))) := by
    intro q
    have B := B (fun b6 um4 => wp_X4_thrown um4 (fun tt => (tt = 1 ∧ (((1 : Int32) = 0 → uo 0 = b6.toInt64) ∧ NX ua uL uo um4)))) ⟨st_at, fun q => absurd q (by decide), hN _ _ _ _ (hRt 1)⟩
    unfold wp_X4_separable
    exact w_lt (b := 0) hm (by unfold Sm; omega) (fun _ => B) (fun q1 => w_lt (a := 11) (by unfold Sm; omega) hm (fun _ => B) (fun q2 => q_isByte hb (fun q3 => bf (by decide) (q_isByte hs (fun q4 => absurd ⟨⟨⟨q1, q2⟩, q3⟩, q4⟩ q) (fun _ => nt rfl B))) (fun _ => bt rfl B)))
  refine q_needMode hm (l := 11) (by unfold Sm; omega) (fun qm => q_needByte hb (fun qb => q_needByte hs (fun qs => q_X1_ofBytes hm qb qs ?_) (fun q => ⟨rfl, bad (fun z => q z.2)⟩)) (fun q => ⟨rfl, bad (fun z => q z.1.2)⟩)) (fun q => ⟨rfl, bad (fun z => q z.1.1)⟩)
  unfold wp_X4_separable
  refine w_lt (b := 0) hm (by unfold Sm; omega) (fun q => by omega) (fun q1 => w_lt (a := 11) (by unfold Sm; omega) hm (fun q => by omega) (fun q2 => q_isByte hb (fun _ => bf (by decide) (q_isByte hs (fun _ => nf (by decide) ?_) (fun q => absurd qs q))) (fun q => absurd qb q)))
  unfold wp_X4_separable_30
  intro u e
  refine bt (by rw [e, st_at]; decide) (q_X4_ofBytes qm.1 qm.2 qb qs ?_)
  rw [e]
  exact ⟨st_at, fun _ => o_0, hN _ _ _ _ (hRt 0)⟩
theorem case_blend {L : Nat} {xs : Nat → Int32} {w h n : Nat} {NX : NT} {x4 : Int32} {ua : U2} {uL : U3} {uo : Nat → Int64} {um : U2} (hR : RR w h n ua uL um) (i1 : vp_in (x4 + 1) L) (i2 : vp_in (x4 + 2) L) (i3 : vp_in (x4 + 3) L) (hN : ∀ ua' uL' uo' um', RR w h n ua' uL' um' → NX ua' uL' uo' um') : wp_case_blend L xs n NX x4 ua uL uo um := by
  obtain ⟨d, rg, bd, cel, kn, mk, mB, cov, t, sy, md, hI, hC, hM, hG⟩ := hR
  have hRt : ∀ v, RR w h n ua uL (st um 0 0 v) := fun v => ⟨d, rg, bd, cel, kn, mk, mB, cov, t, sy, md, hI, hC, hM.thr, hG.thr⟩
  unfold wp_case_blend wp_L_blend wp_X3_blend
  refine ⟨i1, i2, i3, ?_⟩
  obtain ⟨m, hm, em⟩ := ex_iI (xs (x4 + 1).toNatClampNeg)
  obtain ⟨b, hb, eb⟩ := ex_iI (xs (x4 + 2).toNatClampNeg)
  obtain ⟨s, hs, es⟩ := ex_iI (xs (x4 + 3).toNatClampNeg)
  rw [em, eb, es]
  have B : ∀ (P : Int32 → U2 → Prop), P 0 (st um 0 0 1) → wp_X4_blend_34 P um (iI m) (iI b) (iI s) := by
    intro P hP
    unfold wp_X4_blend_34 wp_X4_blend_35
    refine bt rfl ?_
    unfold wp_X4_blend_48
    intro u e
    subst e
    exact bf (by rw [st_at]; decide) hP
  have bad : ¬ (((0 ≤ m ∧ m ≤ 15) ∧ (0 ≤ b ∧ b ≤ 16777215)) ∧ (0 ≤ s ∧ s ≤ 16777215)) → wp_X4_blend um (iI m) (iI b) (iI s) (fun b6 um4 => wp_X4_thrown um4 (fun tt => (tt = 1 ∧ (((1 : Int32) = 0 → uo 0 = b6.toInt64) ∧ NX ua uL uo um4)))) := by
    intro q
    have B := B (fun b6 um4 => wp_X4_thrown um4 (fun tt => (tt = 1 ∧ (((1 : Int32) = 0 → uo 0 = b6.toInt64) ∧ NX ua uL uo um4)))) ⟨st_at, fun q => absurd q (by decide), hN _ _ _ _ (hRt 1)⟩
    unfold wp_X4_blend
    exact w_lt (b := 0) hm (by unfold Sm; omega) (fun _ => B) (fun q1 => w_lt (a := 15) (by unfold Sm; omega) hm (fun _ => B) (fun q2 => w_lt (b := 0) hb (by unfold Sm; omega) (fun _ => B) (fun q3 => w_lt (a := 16777215) (by unfold Sm; omega) hb (fun _ => B) (fun q4 => w_lt (b := 0) hs (by unfold Sm; omega) (fun _ => B) (fun q5 => w_lt (a := 16777215) (by unfold Sm; omega) hs (fun _ => B) (fun q6 => absurd ⟨⟨⟨q1, q2⟩, q3, q4⟩, q5, q6⟩ q))))))
  have nc : ∀ {z : Int} {P : Prop} {PX : String → Prop}, Sm z → ((0 ≤ z ∧ z ≤ 16777215) → P) → (¬ (0 ≤ z ∧ z ≤ 16777215) → PX "java/lang/IllegalArgumentException") → wp_X3_needColour (iI z) P PX := by
    intro z P PX hz h1 h2
    unfold wp_X3_needColour
    exact w_lt (b := 0) hz (by unfold Sm; omega) (fun q => h2 (by omega)) (fun q => w_le (b := 16777215) hz (by unfold Sm; omega) (fun q2 => h1 ⟨q, q2⟩) (fun q2 => h2 (by omega)))
  refine q_needMode hm (l := 15) (by unfold Sm; omega) (fun qm => nc hb (fun qb => nc hs (fun qs => ?_) (fun q => ⟨rfl, bad (fun z => q z.2)⟩)) (fun q => ⟨rfl, bad (fun z => q z.1.2)⟩)) (fun q => ⟨rfl, bad (fun z => q z.1.1)⟩)
  obtain ⟨fb, hfb, efb⟩ := col3 qb.1 qb.2
  obtain ⟨fs, hfs, efs⟩ := col3 qs.1 qs.2
  have X : wp_X4_blend um (iI m) (iI b) (iI s) (fun b6 um4 => wp_X4_thrown um4 (fun tt => (tt = 0 ∧ (((0 : Int32) = 0 → vp_updL uo 0 (iI (pkF (blS m fb fs))).toInt64 0 = b6.toInt64) ∧ NX ua uL (vp_updL uo 0 (iI (pkF (blS m fb fs))).toInt64) um4)))) := by
    unfold wp_X4_blend
    refine w_lt (b := 0) hm (by unfold Sm; omega) (fun _ => by omega) (fun q1 => w_lt (a := 15) (by unfold Sm; omega) hm (fun _ => by omega) (fun q2 => w_lt (b := 0) hb (by unfold Sm; omega) (fun _ => by omega) (fun q3 => w_lt (a := 16777215) (by unfold Sm; omega) hb (fun _ => by omega) (fun q4 => w_lt (b := 0) hs (by unfold Sm; omega) (fun _ => by omega) (fun q5 => w_lt (a := 16777215) (by unfold Sm; omega) hs (fun _ => by omega) (fun q6 => ?_))))))
    unfold wp_X4_blend_35
    refine bf (by decide) ?_
    unfold wp_X4_blend_48
    intro u e
    refine bt (by rw [e, st_at]; decide) ⟨4, ?_⟩
    rw [efb, efs]
    have step : ∀ (N k : Nat) (KX : U2 → Prop) (u : U2), k < 3 → wp_X4_blend_63 KX (iI m) (iI (pkF fb)) (iI (pkF fs)) N (st (st u 13 k (iI (fb k))) 12 k (iI (fs k))) (nI (k + 1)) → wp_X4_blend_63 KX (iI m) (iI (pkF fb)) (iI (pkF fs)) (N + 1) u (nI k) := by
      intro N k KX u hk hn
      rw [wp_X4_blend_63]
      rw [i3c hk, e_bandv hfb hk, e_bandv hfs hk]
      refine bf (i3n hk) ⟨i3i hk, fun u2 e2 => ⟨i3i hk, fun u3 e3 v4 e4 => ?_⟩⟩
      subst e3 e2 e4
      rw [nI_1]
      exact hn
    refine step 3 0 _ u (by omega) (step 2 1 _ _ (by omega) (step 1 2 _ _ (by omega) ?_))
    rw [wp_X4_blend_63]
    refine bt (by decide) ?_
    generalize eu : st (st (st (st (st (st u 13 0 (iI (fb 0))) 12 0 (iI (fs 0))) 13 1 (iI (fb 1))) 12 1 (iI (fs 1))) 13 2 (iI (fb 2))) 12 2 (iI (fs 2)) = u6
    have g13 : RF (u6 13) fb := by
      intro k hk
      rw [← eu]
      simp only [st_get]
      rcases (show k = 0 ∨ k = 1 ∨ k = 2 by omega) with rfl | rfl | rfl <;> simp
    have g12 : RF (u6 12) fs := by
      intro k hk
      rw [← eu]
      simp only [st_get]
      rcases (show k = 0 ∨ k = 1 ∨ k = 2 by omega) with rfl | rfl | rfl <;> simp
    have gr : ∀ r, r ≠ 12 → r ≠ 13 → u6 r = u r := fun r h12 h13 => by rw [← eu, st_row h12, st_row h13, st_row h12, st_row h13, st_row h12, st_row h13]
    refine q_X4_mix qm.1 qm.2 g13 g12 hfb hfs (fun u8 f8 r8 => ?_)
    have G : ∀ r, r ≠ 12 → r ≠ 13 → r ≠ 14 → r ≠ 15 → u8 r = u r := fun r h12 h13 h14 h15 => by rw [f8 r h14 h15, gr r h12 h13]
    have hbl := blS_b (m := m) hfb hfs
    rw [r8 0 (by omega), r8 1 (by omega), r8 2 (by omega), e_pack (hbl 0 (by omega)) (hbl 1 (by omega)) (hbl 2 (by omega))]
    have G' : ∀ r, r ≠ 12 → r ≠ 13 → r ≠ 14 → r ≠ 15 → u8 r = st um 0 0 0 r := fun r h12 h13 h14 h15 => by rw [G r h12 h13 h14 h15, e]
    refine ⟨by rw [G' 0 (by decide) (by decide) (by decide) (by decide), st_at], fun _ => o_0, hN _ _ _ _ ⟨d, rg, bd, cel, kn, mk, mB, cov, t, sy, md, hI, hC, (RMs.thr (v := 0) hM).keep (fun j _ => ?_) ?_ ?_ ?_ ?_ ?_, (hG.thr (j := 0) (v := 0)).keep ?_ ?_ ?_ ?_ ?_ ?_⟩⟩
    · rw [G' 0 (by decide) (by decide) (by decide) (by decide)]
    all_goals exact G' _ (by decide) (by decide) (by decide) (by decide)
  rw [efb, efs] at X ⊢
  exact q_X1_ofColours hm hfb hfs X
