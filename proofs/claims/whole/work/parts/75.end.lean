/-! the calls end and mask -/
theorem RG.mono {um : U2} {rg rg' : Nat} {cel : Nat → Nat → Cl} {kn : Nat → Bool} (h : RG um rg cel kn) (hl : rg' ≤ rg) : RG um rg' cel kn := fun g hg => h g (by omega)
theorem RLy.mono {uL : U3} {w n rg rg' : Nat} {cel : Nat → Nat → Cl} {kn : Nat → Bool} (h : RLy uL w n rg cel kn) (hl : rg' ≤ rg) : RLy uL w n rg' cel kn := ⟨h.1, fun g hg => h.2 g (by omega)⟩
theorem q_needGroup {n d : Nat} {ua : U2} {P : Prop} {PX : String → Prop} (e : ua 0 7 = nI d) (hd : d ≤ 40) (h1 : 2 ≤ d → P) (h2 : d ≤ 1 → PX "java/lang/IllegalStateException") : wp_X3_needGroup n ua P PX := by
  unfold wp_X3_needGroup
  rw [e, iI_n]
  exact w_lt (a := 1) (by unfold Sm; omega) (by unfold Sm; omega) (fun q => h1 (by omega)) (fun q => h2 (by omega))
theorem q_flat {n d rg : Nat} {ua : U2} {P : Int32 → Prop} (e7 : ua 0 7 = nI d) (e8 : ua 0 8 = nI rg) (hd : d ≤ 40) (hr : rg ≤ 6) (h1 : d ≤ rg → P 0) (h2 : rg < d → P 1) : wp_X3_hereIsFlat n ua P := by
  unfold wp_X3_hereIsFlat
  rw [e7, e8, iI_n, iI_n]
  exact w_le (by unfold Sm; omega) (by unfold Sm; omega) (fun q => h1 (by omega)) (fun q => h2 (by omega))
theorem case_end {L : Nat} {xs : Nat → Int32} {w h n : Nat} {NX : NT} {x4 : Int32} {ua : U2} {uL : U3} {uo : Nat → Int64} {um : U2} (hR : RR w h n ua uL um) (i1 : vp_in (x4 + 1) L) (i2 : vp_in (x4 + 2) L) (hN : ∀ ua' uL' uo' um', RR w h n ua' uL' um' → NX ua' uL' uo' um') : wp_case_end L xs n NX x4 ua uL uo um := by
  obtain ⟨d, rg, bd, cel, kn, mk, mB, cov, t, sy, md, hI, hC, hM, hG⟩ := hR
  have hRt : ∀ v, RR w h n ua uL (st um 0 0 v) := fun v => ⟨d, rg, bd, cel, kn, mk, mB, cov, t, sy, md, hI, hC, hM.thr, hG.thr⟩
  obtain ⟨⟨I1, I2, I3, I4, I5, I6⟩, ⟨J1, J2, J3, J4, J5, J6⟩, K1, K2, K3, K4⟩ := hI
  unfold wp_case_end wp_L_end wp_X3_end
  refine ⟨i1, i2, rg - 2, by omega, ?_⟩
  obtain ⟨m, hm, em⟩ := ex_iI (xs (x4 + 1).toNatClampNeg)
  obtain ⟨s, hs, es⟩ := ex_iI (xs (x4 + 2).toNatClampNeg)
  rw [em, es]
  have m4 : um 0 4 = nI d := hM.1.2.2.2.1
  have d1 : um 0 4 = 1 ↔ d = 1 := by
    rw [m4, show (1 : Int32) = nI 1 from rfl, nI_eq (by omega) (by omega)]
  have bad : ∀ v : Int32, ¬ v ≤ 0 → ¬ v = 0 → wp_X4_end_35 (fun b6 um4 => wp_X4_thrown um4 (fun tt => (tt = v ∧ ((v = 0 → uo 0 = b6.toInt64) ∧ NX ua uL uo um4)))) um (iI m) (iI s) v := by
    intro v hv hv0
    unfold wp_X4_end_35
    intro u e
    subst e
    exact bf (by rw [st_at]; exact hv) ⟨st_at, fun q => absurd q hv0, hN _ _ _ _ (hRt v)⟩
  have bad2 : 2 ≤ d → ¬ ((0 ≤ m ∧ m ≤ 15) ∧ Bt s) → wp_X4_end um (iI m) (iI s) (fun b6 um4 => wp_X4_thrown um4 (fun tt => (tt = 2 ∧ (((2 : Int32) = 0 → uo 0 = b6.toInt64) ∧ NX ua uL uo um4)))) := by
    intro hd q
    have B := bad 2 (by decide) (by decide)
    unfold wp_X4_end wp_X4_end_30
    exact nf (fun z => by have := d1.mp z; omega) (w_lt (b := 0) hm (by unfold Sm; omega) (fun _ => B) (fun q1 => w_lt (a := 15) (by unfold Sm; omega) hm (fun _ => B) (fun q2 => q_isByte hs (fun q3 => absurd ⟨⟨q1, q2⟩, q3⟩ q) (fun _ => nt rfl B))))
  have hC' := hC
  obtain ⟨hc0, hc1, hc2, hcL⟩ := hC
  obtain ⟨a0, a1, a2, a3, a4, a5, a6, a7, a8, a9⟩ := hc0
  have bad1 : d ≤ 1 → wp_X4_end um (iI m) (iI s) (fun b6 um4 => wp_X4_thrown um4 (fun tt => (tt = 1 ∧ (((1 : Int32) = 0 → uo 0 = b6.toInt64) ∧ NX ua uL uo um4)))) := by
    intro hd
    unfold wp_X4_end
    exact nt (d1.mpr (by omega)) (bad 1 (by decide) (by decide))
  refine q_needGroup a7 J3 (fun hd => ?_) (fun hd => ⟨fun _ => bad1 hd, fun q => absurd rfl q⟩)
  refine q_needMode hm (l := 15) (by unfold Sm; omega) (fun qm => q_needByte hs (fun qs => ?_) (fun q => ⟨fun z => absurd z (by decide), fun _ => ⟨rfl, bad2 hd (fun z => q z.2)⟩⟩)) (fun q => ⟨fun z => absurd z (by decide), fun _ => ⟨rfl, bad2 hd (fun z => q z.1)⟩⟩)
  have mod : ∀ (P : Int32 → U2 → Prop), (d ≤ rg → ∀ um', RMs um' w h (d - 1) (rg - 1) bd mk mB cov t sy (md + 1) → RG um' rg (celq w h (rg - 2) (nwE (kn (rg - 2)) m mk mB s sy (cel (rg - 2 + 1)) (cel (rg - 2))) cel (12 * h)) kn → um' 0 0 = 0 → P (nI (d - 1)) um') → (rg < d → ∀ um', RMs um' w h (d - 1) rg bd mk mB cov t sy md → RG um' rg cel kn → um' 0 0 = 0 → P (nI (d - 1)) um') → wp_X4_end um (iI m) (iI s) P := by
    intro P h1 h2
    unfold wp_X4_end
    refine nf (fun z => by have := d1.mp z; omega) (w_lt (b := 0) hm (by unfold Sm; omega) (fun _ => by omega) (fun q1 => w_lt (a := 15) (by unfold Sm; omega) hm (fun _ => by omega) (fun q2 => q_isByte hs (fun q3 => nf (by decide) ?_) (fun q => absurd qs q))))
    unfold wp_X4_end_35
    intro u e
    refine bt (by rw [e, st_at]; decide) ?_
    have hMu : RMs u w h d rg bd mk mB cov t sy md := by rw [e]; exact hM.thr
    have hGu : RG u rg cel kn := by rw [e]; exact hG.thr
    refine m_leave hMu J1 J2 J3 hd (fun q u3 r1 r2 r3 => ?_) (fun q u3 r1 r2 r3 => ?_)
    · have ne : ¬ nI (rg - 1) = -1 := by
        rw [show (-1 : Int32) = iI (-1) from rfl, iI_n, iI_eq (by omega) (by omega) (by omega) (by omega)]
        omega
      refine nf ne ?_
      unfold wp_X4_end_67
      intro u4 e4
      rw [r1.1.2.2.2.2.2.2] at e4
      have hM4 : RMs u4 w h (d - 1) (rg - 1) bd mk mB cov t sy (md + 1) := by
        obtain ⟨⟨m1, m2, m3, m4, m5, m6, m7⟩, hm1, hm8, hm9, hm10, hm11⟩ := r1
        refine ⟨⟨?_, ?_, ?_, ?_, ?_, ?_, ?_⟩, ?_, ?_, ?_, ?_, ?_⟩
        · rw [e4, st_el (by decide)]; exact m1
        · rw [e4, st_el (by decide)]; exact m2
        · rw [e4, st_el (by decide)]; exact m3
        · rw [e4, st_el (by decide)]; exact m4
        · rw [e4, st_el (by decide)]; exact m5
        · rw [e4, st_el (by decide)]; exact m6
        · rw [e4, st_at]
        · rw [e4, st_row (by decide)]; exact hm1
        · rw [e4, st_row (by decide)]; exact hm8
        · rw [e4, st_row (by decide)]; exact hm9
        · rw [e4, st_row (by decide)]; exact hm10
        · rw [e4, st_row (by decide)]; exact hm11
      have hG4 : RG u4 rg cel kn := by
        rw [e4]
        refine RG.thr (hGu.keep ?_ ?_ ?_ ?_ ?_ ?_)
        all_goals exact r3 _ (by decide)
      have e00 : u4 0 0 = 0 := by rw [e4, st_el (by decide), r2, e, st_at]
      obtain ⟨g, eg⟩ : ∃ g, rg = g + 2 := ⟨rg - 2, by omega⟩
      subst eg
      refine mm_end (g := g) I2 I4 J4 hM4 hG4 e00 K1 K2 qm.1 qm.2 qs (fun u' z1 z2 z3 => ?_)
      rw [z1.1.2.2.2.1]
      exact h1 q u' z1 z2 z3
    · refine nt rfl ?_
      unfold wp_X4_end_67
      intro u4 e4
      rw [Int32.add_zero, st_same] at e4
      subst e4
      refine ⟨1, ?_⟩
      rw [wp_X4_end_74]
      refine bf (by rw [r1.1.2.1]; exact nI_nle (by omega) (by omega)) (bt rfl ?_)
      rw [r1.1.2.2.2.1]
      refine h2 q _ r1 (hGu.keep ?_ ?_ ?_ ?_ ?_ ?_) (by rw [r2, e, st_at])
      all_goals exact r3 _ (by decide)
  refine q_flat a7 a8 J3 J4 (fun q => nt rfl ?_) (fun q => nf (by decide) ?_)
  · unfold wp_X3_leave
    obtain ⟨g, eg⟩ : ∃ g, rg = g + 2 := ⟨rg - 2, by omega⟩
    subst eg
    have hh := q_here (n := n) (P := True) a8 J1 J4 trivial
    refine ⟨hh.1, hh.2.1, fun ua4 e4 => ?_⟩
    rw [a8, nI_m1 (by omega)] at e4
    have lo := hcL.2 g (by omega)
    have hi' := hcL.2 (g + 1) (by omega)
    have b0 : ua4 0 0 = nI w := by rw [e4, st_el (by decide)]; exact a0
    have b2 : ua4 0 2 = nI n := by rw [e4, st_el (by decide)]; exact a2
    have b3 : ua4 0 3 = 0 ↔ mk = false := by rw [e4, st_el (by decide)]; exact a3
    have b5 : SYZ (ua4 0 5) sy := by rw [e4, st_el (by decide)]; exact a5
    have b8 : ua4 0 8 = nI (g + 1) := by rw [e4, st_at]; rfl
    have bb2 : ∀ i, i < n → ua4 2 i = iI (mB (pt w i)) := by rw [e4, st_row (by decide)]; exact hc2
    refine cc_end (g := g) (kb := kn g) I1 I2 I4 I5 I6 (by omega) b2 b3 b5 b8 bb2 K1 K2 hm qs lo.1 lo.2 hi'.2 (fun ub' hcc hu0 => ?_)
    intro ua19 e19
    unfold wp_X3_end_109
    intro ua2 e2
    have c7 : ua19 0 7 = nI d := by rw [e19, st_el (by decide), e4, st_el (by decide)]; exact a7
    rw [c7, nI_m1 (by omega)] at e2
    have c72 : ua2 0 7 = nI (d - 1) := by rw [e2, st_at]
    rw [c72]
    refine mod _ (fun _ um' z1 z2 z3 => ?_) (fun q2 => by omega)
    refine ⟨z3, fun _ => o_0, hN _ _ _ _ ?_⟩
    have hL2 : RLy (va_up (va_up uL g ub') (g + 1) (uL (g + 1))) w n (g + 1) (celq w h g (nwE (kn g) m mk mB s sy (cel (g + 1)) (cel g)) cel (12 * h)) kn := by
      have : va_up (va_up uL g ub') (g + 1) (uL (g + 1)) = va_up uL g ub' := by
        funext g'
        unfold va_up
        by_cases z : g' = g + 1
        · rw [if_pos z, if_neg (by omega), z]
        · rw [if_neg z]
      rw [this]
      exact RLy.up hcL (by omega) I1 I2 I4 I5 (by omega) (by omega) hu0 hcc
    refine ⟨d - 1, g + 1, bd, _, kn, mk, mB, cov, t, sy, md + 1, ⟨⟨I1, I2, I3, I4, I5, I6⟩, ⟨by omega, by omega, by omega, by omega, J5, J6⟩, celq_b (nwE_b (K1 _) (K1 _) K2 qs) K1, K2, K3, K4⟩, ⟨⟨?_, ?_, ?_, ?_, ?_, ?_, ?_, ?_, ?_, ?_⟩, ?_, ?_, hL2⟩, z1, z2.mono (by omega)⟩
    · rw [e2, st_el (by decide), e19, st_el (by decide)]; exact b0
    · rw [e2, st_el (by decide), e19, st_el (by decide), e4, st_el (by decide)]; exact a1
    · rw [e2, st_el (by decide), e19, st_el (by decide)]; exact b2
    · rw [e2, st_el (by decide), e19, st_el (by decide)]; exact b3
    · rw [e2, st_el (by decide), e19, st_el (by decide), e4, st_el (by decide)]; exact a4
    · rw [e2, st_el (by decide), e19, st_el (by decide)]; exact b5
    · rw [e2, st_el (by decide), e19, st_el (by decide), e4, st_el (by decide)]; exact a6
    · exact c72
    · rw [e2, st_el (by decide), e19, st_el (by decide)]; exact b8
    · rw [e2, st_el (by decide), e19, st_at, e4, st_el (by decide), a9]
    · rw [e2, st_row (by decide), e19, st_row (by decide), e4, st_row (by decide)]; exact hc1
    · rw [e2, st_row (by decide), e19, st_row (by decide)]; exact bb2
  · unfold wp_X3_end_109
    intro ua2 e2
    rw [a7, nI_m1 (by omega)] at e2
    have c72 : ua2 0 7 = nI (d - 1) := by rw [e2, st_at]
    rw [c72, up_same, up_same]
    refine mod _ (fun q2 => by omega) (fun _ um' z1 z2 z3 => ?_)
    refine ⟨z3, fun _ => o_0, hN _ _ _ _ ⟨d - 1, rg, bd, cel, kn, mk, mB, cov, t, sy, md, ⟨⟨I1, I2, I3, I4, I5, I6⟩, ⟨J1, by omega, by omega, J4, J5, J6⟩, K1, K2, K3, K4⟩, ⟨⟨?_, ?_, ?_, ?_, ?_, ?_, ?_, c72, ?_, ?_⟩, ?_, ?_, hcL⟩, z1, z2⟩⟩
    · rw [e2, st_el (by decide)]; exact a0
    · rw [e2, st_el (by decide)]; exact a1
    · rw [e2, st_el (by decide)]; exact a2
    · rw [e2, st_el (by decide)]; exact a3
    · rw [e2, st_el (by decide)]; exact a4
    · rw [e2, st_el (by decide)]; exact a5
    · rw [e2, st_el (by decide)]; exact a6
    · rw [e2, st_el (by decide)]; exact a8
    · rw [e2, st_el (by decide)]; exact a9
    · rw [e2, st_row (by decide)]; exact hc1
    · rw [e2, st_row (by decide)]; exact hc2
