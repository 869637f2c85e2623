/-! the calls mark and end -/
theorem st_same (a : U2) (k j : Nat) : st a k j (a k j) = a := by
  funext r i
  rw [st_get]
  split
  · rename_i q; rw [q.1, q.2]
  · rfl
theorem up_at {uL : U3} {g : Nat} {ub : U2} : va_up uL g ub g = ub := by unfold va_up; rw [if_pos rfl]
theorem up_ne {uL : U3} {g g' : Nat} {ub : U2} (h : g' ≠ g) : va_up uL g ub g' = uL g' := by unfold va_up; rw [if_neg h]
theorem up_same (uL : U3) (g : Nat) : va_up uL g (uL g) = uL := by
  funext g'
  unfold va_up
  split
  · rename_i q; rw [q]
  · rfl
theorem RLy.up {uL : U3} {w h n rg rg' g : Nat} {cel : Nat → Nat → Cl} {kn : Nat → Bool} {ub' : U2} {NEW : Nat → Cl} (hL : RLy uL w n rg' cel kn) (hrg : rg ≤ rg') (I1 : 1 ≤ w) (I2 : w ≤ 12) (I4 : h ≤ 12) (I5 : w * h = n) (hg : g < rg) (h6 : rg ≤ 6) (e0 : ub' 0 = uL g 0) (hcc : ∀ i, i < n → CC ub' i (NEW (pt w i))) : RLy (va_up uL g ub') w n rg (celq w h g NEW cel (12 * h)) kn := by
  refine ⟨fun g' hg' => ?_, fun g' hg' => ?_⟩
  · by_cases q : g' = g
    · rw [q, up_at, e0]; exact hL.1 g (by omega)
    · rw [up_ne q]; exact hL.1 g' hg'
  · by_cases q : g' = g
    · rw [q, up_at, e0]
      refine ⟨(hL.2 g (by omega)).1, fun i hi => ?_⟩
      have hp := pt_V I1 I2 I4 I5 hi
      have hV := hp.2
      rw [celq_in hp.2 (by unfold Vp at hV; omega)]
      exact hcc i hi
    · rw [up_ne q]
      refine ⟨(hL.2 g' (by omega)).1, fun i hi => ?_⟩
      rw [celq_ne q]
      exact (hL.2 g' (by omega)).2 i hi
theorem case_mark {L : Nat} {xs : Nat → Int32} {w h n : Nat} {NX : NT} {x4 : Int32} {ua : U2} {uL : U3} {uo : Nat → Int64} {um : U2} (hR : RR w h n ua uL um) (i1 : vp_in (x4 + 1) L) (i2 : vp_in (x4 + 2) L) (i3 : vp_in (x4 + 3) L) (hN : ∀ ua' uL' uo' um', RR w h n ua' uL' um' → NX ua' uL' uo' um') : wp_case_mark L xs n NX x4 ua uL uo um := by
  obtain ⟨d, rg, bd, cel, kn, mk, mB, cov, t, sy, md, hI, hC, hM, hG⟩ := hR
  have hRt : ∀ v, RR w h n ua uL (st um 0 0 v) := fun v => ⟨d, rg, bd, cel, kn, mk, mB, cov, t, sy, md, hI, hC, hM.thr, hG.thr⟩
  obtain ⟨⟨I1, I2, I3, I4, I5, I6⟩, ⟨J1, J2, J3, J4, J5, J6⟩, K1, K2, K3, K4⟩ := hI
  unfold wp_case_mark wp_L_mark wp_X3_mark
  refine ⟨i1, i2, i3, rg - 1, by omega, ?_⟩
  obtain ⟨m, hm, em⟩ := ex_iI (xs (x4 + 1).toNatClampNeg)
  obtain ⟨b, hb, eb⟩ := ex_iI (xs (x4 + 2).toNatClampNeg)
  obtain ⟨s, hs, es⟩ := ex_iI (xs (x4 + 3).toNatClampNeg)
  rw [em, eb, es]
  have bad : ¬ (((0 ≤ m ∧ m ≤ 15) ∧ Bt b) ∧ Bt s) → wp_X4_mark um (iI m) (iI b) (iI s) (fun b6 um4 => wp_X4_thrown um4 (fun tt => (tt = 1 ∧ (((1 : Int32) = 0 → uo 0 = b6.toInt64) ∧ NX ua uL uo um4)))) := by
    intro q
    have B : wp_X4_mark_25 (fun b6 um4 => wp_X4_thrown um4 (fun tt => (tt = 1 ∧ (((1 : Int32) = 0 → uo 0 = b6.toInt64) ∧ NX ua uL uo um4)))) um (iI m) (iI b) (iI s) := by
      unfold wp_X4_mark_25 wp_X4_mark_30
      intro u e
      refine nf (by rw [e, st_at]; decide) ?_
      unfold wp_X4_mark_53
      intro u2 e2
      rw [Int32.add_zero, st_same] at e2
      subst e2
      refine ⟨1, ?_⟩
      rw [wp_X4_mark_60]
      have h2 : u2 0 2 = nI h := by rw [e, st_el (by decide)]; exact hM.1.2.1
      refine bf (by rw [h2]; exact nI_nle (by omega) (by omega)) (nf (by rw [e, st_at]; decide) ?_)
      rw [e]
      exact ⟨st_at, fun q => absurd q (by decide), hN _ _ _ _ (hRt 1)⟩
    unfold wp_X4_mark
    exact w_lt (b := 0) hm (by unfold Sm; omega) (fun _ => B) (fun q1 => w_lt (a := 15) (by unfold Sm; omega) hm (fun _ => B) (fun q2 => q_isByte hb (fun q3 => bf (by decide) (q_isByte hs (fun q4 => absurd ⟨⟨⟨q1, q2⟩, q3⟩, q4⟩ q) (fun _ => nt rfl B))) (fun _ => bt rfl B)))
  obtain ⟨hc0, hc1, hc2, hcL⟩ := hC
  obtain ⟨a0, a1, a2, a3, a4, a5, a6, a7, a8, a9⟩ := hc0
  refine q_needMode hm (l := 15) (by unfold Sm; omega) (fun qm => q_needByte hb (fun qb => q_needByte hs (fun qs => q_here a8 J1 J4 ?_) (fun q => ⟨rfl, bad (fun z => q z.2)⟩)) (fun q => ⟨rfl, bad (fun z => q z.1.2)⟩)) (fun q => ⟨rfl, bad (fun z => q z.1.1)⟩)
  have hl := hcL.2 (rg - 1) (by omega)
  refine cc_mark (g := rg - 1) (kb := kn (rg - 1)) I1 I2 I4 I5 I6 a2 a3 a4 a5 hc1 hc2 K1 K2 K3 K4 hm qb qs hl.1 hl.2 (fun ub' hcc hu0 => ?_)
  intro ua14 e14
  unfold wp_X4_mark
  refine w_lt (b := 0) hm (by unfold Sm; omega) (fun q => by omega) (fun q1 => w_lt (a := 15) (by unfold Sm; omega) hm (fun q => by omega) (fun q2 => q_isByte qb.sm (fun _ => bf (by decide) (q_isByte qs.sm (fun _ => nf (by decide) ?_) (fun q => absurd qs q))) (fun q => absurd qb q)))
  unfold wp_X4_mark_30
  intro u1 e1
  refine nt (by rw [e1, st_at]) ?_
  unfold wp_X4_mark_53
  intro u2 e2
  have g7 : u1 0 7 = md := by rw [e1, st_el (by decide)]; exact hM.1.2.2.2.2.2.2
  rw [g7] at e2
  have hM1 : RMs u1 w h d rg bd mk mB cov t sy md := by rw [e1]; exact hM.thr
  have hG2 : RG u2 rg cel kn := by rw [e2, e1]; exact hG.thr.thr
  have hM2 : RMs u2 w h d rg bd mk mB cov t sy (md + 1) := by
    obtain ⟨⟨m1, m2, m3, m4, m5, m6, m7⟩, hm1, hm8, hm9, hm10, hm11⟩ := hM1
    refine ⟨⟨?_, ?_, ?_, ?_, ?_, ?_, ?_⟩, ?_, ?_, ?_, ?_, ?_⟩
    · rw [e2, st_el (by decide)]; exact m1
    · rw [e2, st_el (by decide)]; exact m2
    · rw [e2, st_el (by decide)]; exact m3
    · rw [e2, st_el (by decide)]; exact m4
    · rw [e2, st_el (by decide)]; exact m5
    · rw [e2, st_el (by decide)]; exact m6
    · rw [e2, st_at]
    · rw [e2, st_row (by decide)]; exact hm1
    · rw [e2, st_row (by decide)]; exact hm8
    · rw [e2, st_row (by decide)]; exact hm9
    · rw [e2, st_row (by decide)]; exact hm10
    · rw [e2, st_row (by decide)]; exact hm11
  refine mm_mark I2 I4 J1 J4 hM2 hG2 (by rw [e2, st_el (by decide), e1, st_at]) K1 K2 K3 K4 qm.1 qm.2 qb qs (fun u' r1 r2 r3 => ?_)
  have hNB : ∀ p, CB (nwC (kn (rg - 1)) m (fun p => mu (cov p) b) (fun p => lvS mk mB p (mu (mu (cov p) b) s)) (fun _ => t) sy (cel (rg - 1)) p) := fun p => by
    have hf : Bt (mu (cov p) b) := mu_b (K3 _) qb
    have ha0 := mu_b hf qs
    have ha := lvS_b (mk := mk) (p := p) (K2 p) ha0
    have := mu_le hf qs
    exact putC_b (K1 _ p) hf ha.1.1 (Int.le_trans ha.2 this) K4
  refine ⟨r3, fun _ => o_0, hN _ _ _ _ ⟨d, rg, bd, _, kn, mk, mB, cov, t, sy, md + 1, ⟨⟨I1, I2, I3, I4, I5, I6⟩, ⟨J1, J2, J3, J4, J5, J6⟩, celq_b hNB K1, K2, K3, K4⟩, ⟨⟨?_, ?_, ?_, ?_, ?_, ?_, ?_, ?_, ?_, ?_⟩, ?_, ?_, RLy.up hcL (Nat.le_refl rg) I1 I2 I4 I5 (by omega) J4 hu0 hcc⟩, r1, r2⟩⟩
  · rw [e14, st_el (by decide)]; exact a0
  · rw [e14, st_el (by decide)]; exact a1
  · rw [e14, st_el (by decide)]; exact a2
  · rw [e14, st_el (by decide)]; exact a3
  · rw [e14, st_el (by decide)]; exact a4
  · rw [e14, st_el (by decide)]; exact a5
  · rw [e14, st_el (by decide)]; exact a6
  · rw [e14, st_el (by decide)]; exact a7
  · rw [e14, st_el (by decide)]; exact a8
  · rw [e14, st_at, a9]
  · rw [e14, st_row (by decide)]; exact hc1
  · rw [e14, st_row (by decide)]; exact hc2
/-! end -/
def aE (mk : Bool) (mB : Nat → Int) (op : Int) (c : Nat → Cl) : Nat → Int := fun p => lvS mk mB p (if c p 8 < mu (c p 7) op then c p 8 else mu (c p 7) op)
theorem aE_b {mk : Bool} {mB : Nat → Int} {op : Int} {c : Nat → Cl} (hc : ∀ p, CB (c p)) (hm : ∀ p, Bt (mB p)) (ho : Bt op) (p : Nat) : Bt (if c p 8 < mu (c p 7) op then c p 8 else mu (c p 7) op) ∧ 0 ≤ aE mk mB op c p ∧ aE mk mB op c p ≤ c p 8 := by
  have h8 := hc p 8 (by omega)
  have h7 := mu_b (hc p 7 (by omega)) ho
  have hb : Bt (if c p 8 < mu (c p 7) op then c p 8 else mu (c p 7) op) := by split; exact h8; exact h7
  have hl := lvS_b (mk := mk) (p := p) (hm p) hb
  refine ⟨hb, hl.1.1, ?_⟩
  refine Int.le_trans hl.2 ?_
  split <;> omega
def nwE (kb : Bool) (m : Int) (mk : Bool) (mB : Nat → Int) (op : Int) (sy : Nat → Bool) (c cb : Nat → Cl) : Nat → Cl := nwC kb m (fun p => c p 8) (aE mk mB op c) (fun p => rsF (c p)) sy cb
theorem nwE_b {kb : Bool} {m : Int} {mk : Bool} {mB : Nat → Int} {op : Int} {sy : Nat → Bool} {c cb : Nat → Cl} (hc : ∀ p, CB (c p)) (hcb : ∀ p, CB (cb p)) (hm : ∀ p, Bt (mB p)) (ho : Bt op) : ∀ p, CB (nwE kb m mk mB op sy c cb p) := fun p => by
  have ha := aE_b (mk := mk) hc hm ho p
  exact putC_b (hcb p) (hc p 8 (by omega)) ha.2.1 ha.2.2 (rsF_b (c p))
theorem cc_end {n w h g : Nat} {ua ub uc : U2} {KX : U2 → U2 → U2 → Prop} {cel : Nat → Nat → Cl} {kb : Bool} {mk : Bool} {mB : Nat → Int} {sy : Nat → Bool} {m op : Int} (I1 : 1 ≤ w) (I2 : w ≤ 12) (I4 : h ≤ 12) (I5 : w * h = n) (I6 : n ≤ 144) (hg : g < 6) (e2 : ua 0 2 = nI n) (e3 : ua 0 3 = 0 ↔ mk = false) (e5 : SYZ (ua 0 5) sy) (e8 : ua 0 8 = nI (g + 1)) (c2 : ∀ i, i < n → ua 2 i = iI (mB (pt w i))) (hK1 : ∀ g p, CB (cel g p)) (hK2 : ∀ p, Bt (mB p)) (hm : Sm m) (hop : Bt op) (hkb : ub 0 1 = 0 ↔ kb = false) (hcc : ∀ i, i < n → CC ub i (cel g (pt w i))) (hce : ∀ i, i < n → CC uc i (cel (g + 1) (pt w i)))
    (hE : ∀ ub', (∀ i, i < n → CC ub' i (nwE kb m mk mB op sy (cel (g + 1)) (cel g) (pt w i))) → ub' 0 = ub 0 → KX ua ub' uc) :
    ∃ N, wp_X3_end_29 n g (g + 1) KX (iI m) (iI op) N ua ub uc 0 := by
  refine upN0 (σ := U2) (fun N s i => wp_X3_end_29 n g (g + 1) KX (iI m) (iI op) N ua s uc i) (fun i s => (∀ j, j < n → CC s j (if j < i then nwE kb m mk mB op sy (cel (g + 1)) (cel g) (pt w j) else cel g (pt w j))) ∧ s 0 = ub 0) n ub ⟨fun j hj => ?_, rfl⟩ (fun N i ub1 hi hs hn => ?_) (fun N ub1 hs => ?_)
  · rw [if_neg (by omega)]; exact hcc j hj
  · obtain ⟨s1, s2⟩ := hs
    rw [wp_X3_end_29]
    have hci := hce i hi
    have hcb := hK1 (g + 1) (pt w i)
    have h8 := hcb 8 (by omega)
    have h7 := mu_b (hcb 7 (by omega)) hop
    have ha := aE_b (mk := mk) (hK1 (g + 1)) hK2 hop (pt w i)
    have hii := vin (N := n) hi (by omega)
    refine bf (by rw [e2]; exact nI_ge hi (by omega)) ?_
    unfold wp_X0_shapeAt wp_X0_ownAlpha
    rw [ncl (by omega), hci.2.2.2.1, hci.2.2.2.2]
    refine ⟨hii, hii, q_X2_mul (hcb 7 (by omega)) hop (fun v8 e8' => ?_)⟩
    rw [ilt h8.sm h7.sm] at e8'
    subst e8'
    have hh := q_here (n := n) (P := True) e8 (by omega) (by omega) trivial
    rw [Nat.add_sub_cancel] at hh
    refine ⟨hh.1, hh.2.1, ?_⟩
    refine q_X0_result hi I6 hci hcb (q_leftBy hi I6 e3 (c2 i hi) (hK2 _) ha.1 ?_)
    have hcj := s1 i hi
    rw [if_neg (by omega)] at hcj
    refine q_X0_put (kn := kb) hi I6 hm hcj (hK1 g _) (by rw [s2]; exact hkb) e5.sy h8 ha.2.1 ha.2.2 (rsF_b _) (fun ub6 g6 gf => ?_)
    intro v14 e14
    subst e14
    rw [nI_1 i]
    refine hn ub6 ⟨fun j hj => ?_, ?_⟩
    · by_cases q : j = i
      · rw [q, if_pos (by omega)]; exact g6
      · have hcj := s1 j hj
        have : ∀ r, ub6 r j = ub1 r j := fun r => gf r j (Or.inr q)
        unfold CC at hcj ⊢
        rw [this, this, this, this, this]
        by_cases q2 : j < i
        · rw [if_pos (by omega)]; rw [if_pos q2] at hcj; exact hcj
        · rw [if_neg (by omega)]; rw [if_neg q2] at hcj; exact hcj
    · rw [← s2]
      funext j
      exact gf 0 j (Or.inl rfl)
  · obtain ⟨s1, s2⟩ := hs
    rw [wp_X3_end_29]
    refine bt (by rw [e2]; exact nI_le (by omega) (by omega)) ?_
    refine hE ub1 (fun i hi => ?_) s2
    have := s1 i hi
    rw [if_pos hi] at this
    exact this
theorem mm_end {um : U2} {KX : U2 → Prop} {w h d g bd : Nat} {cel : Nat → Nat → Cl} {kn : Nat → Bool} {mk : Bool} {mB cov : Nat → Int} {t : F3} {sy : Nat → Bool} {md : Int32} {m op : Int} (I2 : w ≤ 12) (I4 : h ≤ 12) (J4 : g + 2 ≤ 6) (hM : RMs um w h d (g + 1) bd mk mB cov t sy md) (hG : RG um (g + 2) cel kn) (h00 : um 0 0 = 0) (hK1 : ∀ g p, CB (cel g p)) (hK2 : ∀ p, Bt (mB p)) (hm : 0 ≤ m) (hm2 : m ≤ 15) (hop : Bt op)
    (hE : ∀ um', RMs um' w h d (g + 1) bd mk mB cov t sy md → RG um' (g + 2) (celq w h g (nwE (kn g) m mk mB op sy (cel (g + 1)) (cel g)) cel (12 * h)) kn → um' 0 0 = 0 → KX um') :
    ∃ N, wp_X4_end_74 KX (iI m) (iI op) (nI (g + 1)) N um 0 := by
  have hNB := nwE_b (kb := kn g) (m := m) (mk := mk) (sy := sy) (hK1 (g + 1)) (hK1 g) hK2 hop
  generalize eW : nwE (kn g) m mk mB op sy (cel (g + 1)) (cel g) = NW at hE hNB ⊢
  have gne : ¬ nI (g + 1) = -1 := by
    rw [show (-1 : Int32) = iI (-1) from rfl, iI_n, iI_eq (by omega) (by omega) (by omega) (by omega)]
    omega
  refine upN0 (σ := U2) (fun N s i => wp_X4_end_74 KX (iI m) (iI op) (nI (g + 1)) N s i) (fun y s => RMs s w h d (g + 1) bd mk mB cov t sy md ∧ RG s (g + 2) (celq w h g NW cel (12 * y)) kn ∧ s 0 0 = 0) h um ⟨hM, by rw [Nat.mul_zero, celq_0]; exact hG, h00⟩ (fun N y u hy hs hn => ?_) (fun N u hs => ?_)
  · obtain ⟨s1, s2, z3⟩ := hs
    rw [wp_X4_end_74]
    refine bf (by rw [s1.1.2.1]; exact nI_ge hy (by omega)) (bf gne ?_)
    refine upN0 (σ := U2) (fun N' s i => wp_X4_end_91 (fun um16 => ∀ v17, v17 = nI y + 1 → wp_X4_end_74 KX (iI m) (iI op) (nI (g + 1)) N um16 v17) (iI m) (iI op) (nI (g + 1)) (nI y) N' s i) (fun x s => RMs s w h d (g + 1) bd mk mB cov t sy md ∧ RG s (g + 2) (celq w h g NW cel (12 * y + x)) kn ∧ s 0 0 = 0) w u ⟨s1, s2, z3⟩ (fun N2 x u1 hx hs hn2 => ?_) (fun N2 u1 hs => ?_)
    · obtain ⟨t1, t2, t3⟩ := hs
      have hV : Vp w h (12 * y + x) := by unfold Vp; omega
      rw [wp_X4_end_91]
      refine bf (by rw [t1.1.1]; exact nI_ge hx (by omega)) ?_
      unfold wp_X4_pointAt
      rw [e_pm]
      have hcm := (t2 (g + 1) (by omega)).2 (12 * y + x) (by omega)
      rw [celq_ne (by omega)] at hcm
      have hcb := hK1 (g + 1) (12 * y + x)
      have h8 := hcb 8 (by omega)
      have h7 := mu_b (hcb 7 (by omega)) hop
      have ha := aE_b (mk := mk) (hK1 (g + 1)) hK2 hop (12 * y + x)
      dsimp only
      rw [e_cell, ncl (by omega), hcm.2.2.2.1, hcm.2.2.2.2]
      have hji := vin (k := 144 * (g + 1) + (12 * y + x)) (N := 1152) (by omega) (by omega)
      refine ⟨hji, fun v6 e6 => ⟨hji, ?_⟩⟩
      subst e6
      refine q_X4_mul (hcb 7 (by omega)) hop (q_X4_result rfl (by omega) hcm hcb (fun u9 f9 r9 => ?_))
      have k1 : RMs u9 w h d (g + 1) bd mk mB cov t sy md := t1.keep (fun j _ => by rw [f9 0 (by decide)]) (f9 _ (by decide)) (f9 _ (by decide)) (f9 _ (by decide)) (f9 _ (by decide)) (f9 _ (by decide))
      have k2 : RG u9 (g + 2) (celq w h g NW cel (12 * y + x)) kn := t2.keep (f9 _ (by decide)) (f9 _ (by decide)) (f9 _ (by decide)) (f9 _ (by decide)) (f9 _ (by decide)) (f9 _ (by decide))
      have fin : ∀ z : Int, z = (if cel (g + 1) (12 * y + x) 8 < mu (cel (g + 1) (12 * y + x) 7) op then cel (g + 1) (12 * y + x) 8 else mu (cel (g + 1) (12 * y + x) 7) op) → wp_X4_end_175 (wp_X4_end_91 (fun um16 => ∀ v17, v17 = nI y + 1 → wp_X4_end_74 KX (iI m) (iI op) (nI (g + 1)) N um16 v17) (iI m) (iI op) (nI (g + 1)) (nI y) N2) u9 (iI m) (iI op) (nI (g + 1)) (nI y) (nI x) (nI (12 * y + x)) (iI z) (iI (cel (g + 1) (12 * y + x) 8)) (iI m) (nI (12 * y + x)) (nI (g + 1) - 1) := by
        intro z ez
        rw [nI_pred]
        unfold wp_X4_end_175
        rw [ez]
        refine q_leaves (by omega) k1.1.2.2.2.2.2.1 (k1.2.2.1 _ (by omega)) (hK2 _) ha.1 ?_
        refine m_put k1 k2 (celq_b hNB hK1) (by omega) J4 (by omega) hm hm2 h8 ha.2.1 ha.2.2 r9 (rsF_b _) (fun u6 r1 r2 r3 v13 e13 => ?_)
        subst e13
        rw [nI_1 x]
        refine hn2 u6 ⟨r1, ?_, ?_⟩
        · show RG u6 (g + 2) (celq w h g NW cel (12 * y + x + 1)) kn
          rw [← celq_s hV]
          have en : NW (12 * y + x) = putC (kn g) m (cel (g + 1) (12 * y + x) 8) (aE mk mB op (cel (g + 1)) (12 * y + x)) (rsF (cel (g + 1) (12 * y + x))) sy (celq w h g NW cel (12 * y + x) g (12 * y + x)) := by
            rw [celq_ge (by omega), ← eW]
            rfl
          rw [en]
          exact r2
        · show u6 0 0 = 0
          rw [r3, f9 0 (by decide)]; exact t3
      refine w_le h7.sm h8.sm (fun q => fin _ ?_) (fun q => fin _ ?_)
      · rw [if_neg (by omega)]
      · rw [if_pos q]
    · obtain ⟨t1, t2, t3⟩ := hs
      rw [wp_X4_end_91]
      refine bt (by rw [t1.1.1]; exact nI_le (by omega) (by omega)) (fun v20 e20 => ?_)
      subst e20
      rw [nI_1 y]
      exact hn u1 ⟨t1, by rw [← celq_row I2]; exact t2, t3⟩
  · obtain ⟨s1, s2, z3⟩ := hs
    rw [wp_X4_end_74]
    exact bt (by rw [s1.1.2.1]; exact nI_le (by omega) (by omega)) (hE u s1 s2 z3)
theorem m_leave {um : U2} {P : Int32 → U2 → Prop} {w h d rg bd : Nat} {mk : Bool} {mB cov : Nat → Int} {t : F3} {sy : Nat → Bool} {md : Int32} (hM : RMs um w h d rg bd mk mB cov t sy md) (J1 : 1 ≤ rg) (J2 : rg ≤ d) (J3 : d ≤ 40) (hd : 2 ≤ d) (h1 : d ≤ rg → ∀ um', RMs um' w h (d - 1) (rg - 1) bd mk mB cov t sy md → um' 0 0 = um 0 0 → (∀ r, r ≠ 0 → um' r = um r) → P (nI (rg - 1)) um') (h2 : rg < d → ∀ um', RMs um' w h (d - 1) rg bd mk mB cov t sy md → um' 0 0 = um 0 0 → (∀ r, r ≠ 0 → um' r = um r) → P (-1) um') : wp_X4_leave um P := by
  obtain ⟨⟨m1, m2, m3, m4, m5, m6, m7⟩, hm1, hm8, hm9, hm10, hm11⟩ := hM
  unfold wp_X4_leave
  rw [m4, ncl (by omega), hm1 d (Nat.le_refl d), nI_m1 (by omega)]
  refine ⟨vin (by omega) (by omega), fun v1 e1 um2 e2 => ?_⟩
  have g5 : um2 0 5 = nI rg := by rw [e2, st_el (by decide)]; exact m5
  rw [g5, nI_m1 J1]
  by_cases q : d ≤ rg
  · rw [if_pos q] at e1
    have ne : ¬ v1 = -1 := by
      rw [e1, show (-1 : Int32) = iI (-1) from rfl, iI_n, iI_eq (by omega) (by omega) (by omega) (by omega)]
      omega
    refine nf ne (fun um3 e3 => ?_)
    have e4 : d = rg := by omega
    rw [e1, e4]
    refine h1 q um3 ⟨⟨?_, ?_, ?_, ?_, ?_, ?_, ?_⟩, ?_, ?_, ?_, ?_, ?_⟩ ?_ (fun r hr => by rw [e3, st_row hr, e2, st_row hr])
    · rw [e3, st_el (by decide), e2, st_el (by decide)]; exact m1
    · rw [e3, st_el (by decide), e2, st_el (by decide)]; exact m2
    · rw [e3, st_el (by decide), e2, st_el (by decide)]; exact m3
    · rw [e3, st_el (by decide), e2, st_at]
    · rw [e3, st_at]
    · rw [e3, st_el (by decide), e2, st_el (by decide)]; exact m6
    · rw [e3, st_el (by decide), e2, st_el (by decide)]; exact m7
    · rw [e3, st_row (by decide), e2, st_row (by decide)]
      intro e he
      rw [hm1 e (by omega), if_pos (by omega), if_pos (by omega)]
    · rw [e3, st_row (by decide), e2, st_row (by decide)]; exact hm8
    · rw [e3, st_row (by decide), e2, st_row (by decide)]; exact hm9
    · rw [e3, st_row (by decide), e2, st_row (by decide)]; exact hm10
    · rw [e3, st_row (by decide), e2, st_row (by decide)]; exact hm11
    · rw [e3, st_el (by decide), e2, st_el (by decide)]
  · rw [if_neg q] at e1
    refine nt e1 (fun um3 e3 => ?_)
    rw [e1]
    refine h2 (by omega) um3 ⟨⟨?_, ?_, ?_, ?_, ?_, ?_, ?_⟩, ?_, ?_, ?_, ?_, ?_⟩ ?_ (fun r hr => by rw [e3, st_row hr, e2, st_row hr])
    · rw [e3, st_el (by decide), e2, st_el (by decide)]; exact m1
    · rw [e3, st_el (by decide), e2, st_el (by decide)]; exact m2
    · rw [e3, st_el (by decide), e2, st_el (by decide)]; exact m3
    · rw [e3, st_el (by decide), e2, st_at]
    · rw [e3, st_at]
    · rw [e3, st_el (by decide), e2, st_el (by decide)]; exact m6
    · rw [e3, st_el (by decide), e2, st_el (by decide)]; exact m7
    · rw [e3, st_row (by decide), e2, st_row (by decide)]
      intro e he
      exact hm1 e (by omega)
    · rw [e3, st_row (by decide), e2, st_row (by decide)]; exact hm8
    · rw [e3, st_row (by decide), e2, st_row (by decide)]; exact hm9
    · rw [e3, st_row (by decide), e2, st_row (by decide)]; exact hm10
    · rw [e3, st_row (by decide), e2, st_row (by decide)]; exact hm11
    · rw [e3, st_el (by decide), e2, st_el (by decide)]
