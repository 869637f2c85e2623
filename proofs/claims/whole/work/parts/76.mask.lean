/-! mask -/
def mkV (kind : Int) (tu : Int32) (c : Cl) : Int := if tu = 0 then (if kind = 1 then c 7 else rlS c) else 255 - (if kind = 1 then c 7 else rlS c)
theorem mkV0_b {kind : Int} {c : Cl} (hc : CB c) : Bt (if kind = 1 then c 7 else rlS c) := by
  split
  · exact hc 7 (by omega)
  · exact rlS_b hc
theorem mkV_b {kind : Int} {tu : Int32} {c : Cl} (hc : CB c) : Bt (mkV kind tu c) := by
  have := mkV0_b (kind := kind) hc
  unfold mkV
  split
  · exact this
  · unfold Bt at *; omega
theorem cc_mask {n w h k g : Nat} {ua uc : U2} {KX : U2 → U2 → Prop} {cel : Nat → Nat → Cl} {mB : Nat → Int} {kind : Int} {tu : Int32} (I1 : 1 ≤ w) (I2 : w ≤ 12) (I4 : h ≤ 12) (I5 : w * h = n) (I6 : n ≤ 144) (e2 : ua 0 2 = nI n) (c2 : ∀ i, i < n → ua 2 i = iI (mB (pt w i))) (hK1 : ∀ g p, CB (cel g p)) (hk1 : kind = 1 ∨ kind = 2) (hce : ∀ i, i < n → CC uc i (cel g (pt w i)))
    (hE : ∀ ua', (∀ r, r ≠ 2 → ua' r = ua r) → (∀ i, i < n → ua' 2 i = iI (mkV kind tu (cel g (pt w i)))) → KX ua' uc) :
    ∃ N, wp_X3_mask_39 n k KX (iI kind) tu N ua uc 0 := by
  refine upN0 (σ := U2) (fun N s i => wp_X3_mask_39 n k KX (iI kind) tu N s uc i) (fun i s => (∀ r, r ≠ 2 → s r = ua r) ∧ ∀ j, j < n → s 2 j = iI (if j < i then mkV kind tu (cel g (pt w j)) else mB (pt w j))) n ua ⟨fun _ _ => rfl, fun j hj => ?_⟩ (fun N i u hi hs hn => ?_) (fun N u hs => ?_)
  · rw [if_neg (by omega)]; exact c2 j hj
  · obtain ⟨s1, s2⟩ := hs
    rw [wp_X3_mask_39]
    have hci := hce i hi
    have hcb := hK1 g (pt w i)
    have hii := vin (N := n) hi (by omega)
    have fin0 : ∀ v : Int, v = mkV kind tu (cel g (pt w i)) → wp_X3_mask_91 n k (wp_X3_mask_39 n k KX (iI kind) tu N) u uc (iI kind) tu (nI i) (iI v) (nI i) := by
      intro v ev
      unfold wp_X3_mask_91
      refine ⟨hii, fun u6 e6 v7 e7 => ?_⟩
      rw [ncl (by omega)] at e6
      subst e7
      rw [nI_1 i]
      refine hn u6 ⟨fun r hr => by rw [e6, st_row hr]; exact s1 r hr, fun j hj => ?_⟩
      by_cases q : j = i
      · rw [q, if_pos (by omega), e6, st_at, ev]
      · rw [e6, st_el q, s2 j hj]
        by_cases q2 : j < i
        · rw [if_pos q2, if_pos (by omega)]
        · rw [if_neg q2, if_neg (by omega)]
    have fin : ∀ v : Int, v = (if kind = 1 then cel g (pt w i) 7 else rlS (cel g (pt w i))) → wp_X3_mask_68 n k (wp_X3_mask_39 n k KX (iI kind) tu N) u uc (iI kind) tu (nI i) (iI v) := by
      intro v ev
      unfold wp_X3_mask_68
      refine ⟨fun q => fin0 _ ?_, fun q => ?_⟩
      · unfold mkV; rw [if_pos q]; exact ev
      · rw [e_255m]
        refine fin0 _ ?_
        unfold mkV; rw [if_neg q, ← ev]
    refine bf (by rw [s1 0 (by decide), e2]; exact nI_ge hi (by omega)) (w_ne (b := 1) (by unfold Sm; omega) (by unfold Sm; omega) (fun q => ?_) (fun q => ?_))
    · unfold wp_X0_ownAlpha
      rw [ncl (by omega), hci.2.2.2.1]
      exact ⟨hii, fin _ (by rw [if_pos q])⟩
    · exact q_X0_resultLum hi I6 hci hcb (fin _ (by rw [if_neg q]))
  · obtain ⟨s1, s2⟩ := hs
    rw [wp_X3_mask_39]
    refine bt (by rw [s1 0 (by decide), e2]; exact nI_le (by omega) (by omega)) (hE u s1 (fun i hi => ?_))
    have := s2 i hi
    rw [if_pos hi] at this
    exact this
theorem mm_mask {um : U2} {KX : U2 → Prop} {w h d g bd : Nat} {cel : Nat → Nat → Cl} {kn : Nat → Bool} {mk : Bool} {mB cov : Nat → Int} {t : F3} {sy : Nat → Bool} {md : Int32} {kind : Int} {tu : Int32} {rgs : Nat} (J4 : g < 6) (hM : RMs um w h d rgs bd mk mB cov t sy md) (hG : RG um (g + 1) cel kn) (h00 : um 0 0 = 0) (hK1 : ∀ g p, CB (cel g p)) (hk1 : kind = 1 ∨ kind = 2)
    (hE : ∀ um', RMs um' w h d rgs bd true (fun p => if p < 144 then mkV kind tu (cel g p) else mB p) cov t sy md → RG um' (g + 1) cel kn → um' 0 0 = 0 → KX um') :
    ∃ N, wp_X4_mask_48 KX (iI kind) tu (nI g) N um 0 := by
  have gne : ¬ nI g = -1 := by
    rw [show (-1 : Int32) = iI (-1) from rfl, iI_n, iI_eq (by omega) (by omega) (by omega) (by omega)]
    omega
  refine upN0 (σ := U2) (fun N s i => wp_X4_mask_48 KX (iI kind) tu (nI g) N s i) (fun p s => RMs s w h d rgs bd (if p = 0 then mk else true) (fun q => if q < p then mkV kind tu (cel g q) else mB q) cov t sy md ∧ RG s (g + 1) cel kn ∧ s 0 0 = 0) 144 um ⟨?_, hG, h00⟩ (fun N p u hp hs hn => ?_) (fun N u hs => ?_)
  · have : (fun q => if q < 0 then mkV kind tu (cel g q) else mB q) = mB := by
      funext q
      rw [if_neg (by omega)]
    rw [this]
    exact hM
  · obtain ⟨s1, s2, z3⟩ := hs
    rw [wp_X4_mask_48]
    have hcm := (s2 g (by omega)).2 p hp
    have hcb := hK1 g p
    have h7 := hcb 7 (by omega)
    have hji := vin (k := 144 * g + p) (N := 1152) (by omega) (by omega)
    have fin0 : ∀ (u1 : U2) (v : Int), (∀ r, r ≠ 12 → u1 r = u r) → v = mkV kind tu (cel g p) → wp_X4_mask_152 (wp_X4_mask_48 KX (iI kind) tu (nI g) N) u1 (iI kind) tu (nI g) (nI p) (iI v) (nI p) := by
      intro u1 v hu ev
      unfold wp_X4_mask_152
      refine ⟨vin hp (by omega), fun u5 e5 u6 e6 v7 e7 => ?_⟩
      rw [ncl (by omega)] at e5
      subst e7
      rw [nI_1 p]
      obtain ⟨⟨m1, m2, m3, m4, m5, m6, m7⟩, hm1, hm8, hm9, hm10, hm11⟩ := s1
      have hr : ∀ r, r ≠ 0 → r ≠ 8 → r ≠ 12 → u6 r = u r := fun r h0 h8 h12 => by rw [e6, st_row h0, e5, st_row h8, hu r h12]
      have h0 : ∀ j, j ≠ 6 → u6 0 j = u 0 j := fun j hj => by rw [e6, st_el hj, e5, st_row (by decide), hu 0 (by decide)]
      refine hn u6 ⟨⟨⟨?_, ?_, ?_, ?_, ?_, ?_, ?_⟩, ?_, fun p' hp' => ?_, ?_, ?_, ?_⟩, s2.keep ?_ ?_ ?_ ?_ ?_ ?_, ?_⟩
      · rw [h0 1 (by decide)]; exact m1
      · rw [h0 2 (by decide)]; exact m2
      · rw [h0 3 (by decide)]; exact m3
      · rw [h0 4 (by decide)]; exact m4
      · rw [h0 5 (by decide)]; exact m5
      · rw [e6, st_at, if_neg (by omega)]
        exact ⟨fun q => absurd q (by decide), fun q => absurd q (by decide)⟩
      · rw [h0 7 (by decide)]; exact m7
      · rw [hr 1 (by decide) (by decide) (by decide)]; exact hm1
      · show _ = iI (if p' < p + 1 then mkV kind tu (cel g p') else mB p')
        by_cases q : p' = p
        · rw [q, if_pos (by omega), e6, st_row (by decide), e5, st_at, ev]
        · rw [e6, st_row (by decide), e5, st_el q, hu 8 (by decide), hm8 p' hp']
          dsimp only
          by_cases q2 : p' < p
          · rw [if_pos q2, if_pos (by omega)]
          · rw [if_neg q2, if_neg (by omega)]
      · rw [hr 9 (by decide) (by decide) (by decide)]; exact hm9
      · rw [hr 10 (by decide) (by decide) (by decide)]; exact hm10
      · rw [hr 11 (by decide) (by decide) (by decide)]; exact hm11
      · exact hr _ (by decide) (by decide) (by decide)
      · exact hr _ (by decide) (by decide) (by decide)
      · exact hr _ (by decide) (by decide) (by decide)
      · exact hr _ (by decide) (by decide) (by decide)
      · exact hr _ (by decide) (by decide) (by decide)
      · exact hr _ (by decide) (by decide) (by decide)
      · rw [h0 0 (by decide)]; exact z3
    have fin : ∀ (u1 : U2) (v : Int), (∀ r, r ≠ 12 → u1 r = u r) → v = (if kind = 1 then cel g p 7 else rlS (cel g p)) → wp_X4_mask_131 (wp_X4_mask_48 KX (iI kind) tu (nI g) N) u1 (iI kind) tu (nI g) (nI p) (iI v) := by
      intro u1 v hu ev
      unfold wp_X4_mask_131
      refine ⟨fun q => fin0 u1 _ hu ?_, fun q => ?_⟩
      · unfold mkV; rw [if_pos q]; exact ev
      · rw [e_255m]
        refine fin0 u1 _ hu ?_
        unfold mkV; rw [if_neg q, ← ev]
    refine bf (nI_ge (b := 144) hp (by omega)) (bf gne ?_)
    rw [e_cell, ncl (show 144 * g + p < 2147483648 by omega), hcm.2.2.2.1]
    refine ⟨hji, fun v4 e4 => ?_⟩
    subst e4
    refine w_ne (b := 2) (by unfold Sm; omega) (by unfold Sm; omega) (fun q => ?_) (fun q => fin u _ (fun _ _ => rfl) (by rw [if_pos (by omega)]))
    refine q_X4_result rfl (by omega) hcm hcb (fun u10 f10 r10 => ⟨4, ?_⟩)
    have hrb := rsF_b (cel g p)
    refine three 12 0 (fun k => iI (mu (rsF (cel g p) k) (cel g p 7))) (fun N3 k um' hk hR hel hn3 => ?_) ?_
    · rw [wp_X4_mask_91]
      rw [Nat.zero_add] at hn3 hel
      rw [i3c hk, hel, r10 k hk]
      refine bf (i3n hk) ⟨i3i hk, q_X4_mul (hrb k hk) h7 ⟨i3i hk, fun u eu v4 e4 => ?_⟩⟩
      subst eu e4
      rw [nI_1 k]
      exact hn3
    · rw [wp_X4_mask_91]
      refine bt (by decide) ?_
      have rr : RF (s3 u10 12 0 (fun k => iI (mu (rsF (cel g p) k) (cel g p 7))) 12) (fun k => mu (rsF (cel g p) k) (cel g p 7)) := RF_s3 (fun k _ => rfl)
      refine q_X4_lum rr.r (mu_b (hrb 0 (by omega)) h7).md (mu_b (hrb 1 (by omega)) h7).md (mu_b (hrb 2 (by omega)) h7).md ?_
      exact fin _ (rlS (cel g p)) (fun r hr => by rw [s3_row hr, f10 r hr]) (by rw [if_neg (by omega)])
  · obtain ⟨s1, s2, z3⟩ := hs
    rw [wp_X4_mask_48]
    exact bt (by decide) (hE u s1 s2 z3)
theorem case_mask {L : Nat} {xs : Nat → Int32} {w h n : Nat} {NX : NT} {x4 : Int32} {ua : U2} {uL : U3} {uo : Nat → Int64} {um : U2} (hR : RR w h n ua uL um) (i1 : vp_in (x4 + 1) L) (i2 : vp_in (x4 + 2) L) (hN : ∀ ua' uL' uo' um', RR w h n ua' uL' um' → NX ua' uL' uo' um') : wp_case_mask L xs n NX x4 ua uL uo um := by
  obtain ⟨d, rg, bd, cel, kn, mk, mB, cov, t, sy, md, hI, hC, hM, hG⟩ := hR
  have hRt : ∀ v, RR w h n ua uL (st um 0 0 v) := fun v => ⟨d, rg, bd, cel, kn, mk, mB, cov, t, sy, md, hI, hC, hM.thr, hG.thr⟩
  obtain ⟨⟨I1, I2, I3, I4, I5, I6⟩, ⟨J1, J2, J3, J4, J5, J6⟩, K1, K2, K3, K4⟩ := hI
  unfold wp_case_mask wp_L_mask wp_X3_mask
  refine ⟨i1, i2, rg - 1, by omega, ?_⟩
  obtain ⟨m, hm, em⟩ := ex_iI (xs (x4 + 1).toNatClampNeg)
  rw [em]
  generalize bI (xs (x4 + 2).toNatClampNeg) = tu
  have m4 : um 0 4 = nI d := hM.1.2.2.2.1
  have d1 : um 0 4 = 1 ↔ d = 1 := by
    rw [m4, show (1 : Int32) = nI 1 from rfl, nI_eq (by omega) (by omega)]
  have bad : ∀ v : Int32, ¬ v ≤ 0 → ¬ v = 0 → wp_X4_mask_28 (fun b6 um4 => wp_X4_thrown um4 (fun tt => (tt = v ∧ ((v = 0 → uo 0 = b6.toInt64) ∧ NX ua uL uo um4)))) um (iI m) tu v := by
    intro v hv hv0
    unfold wp_X4_mask_28
    intro u e
    subst e
    exact bf (by rw [st_at]; exact hv) ⟨st_at, fun q => absurd q hv0, hN _ _ _ _ (hRt v)⟩
  have bad1 : d ≤ 1 → wp_X4_mask um (iI m) tu (fun b6 um4 => wp_X4_thrown um4 (fun tt => (tt = 1 ∧ (((1 : Int32) = 0 → uo 0 = b6.toInt64) ∧ NX ua uL uo um4)))) := by
    intro hd
    unfold wp_X4_mask
    exact nt (d1.mpr (by omega)) (bad 1 (by decide) (by decide))
  have bad2 : 2 ≤ d → ¬ (1 ≤ m ∧ m ≤ 2) → wp_X4_mask um (iI m) tu (fun b6 um4 => wp_X4_thrown um4 (fun tt => (tt = 2 ∧ (((2 : Int32) = 0 → uo 0 = b6.toInt64) ∧ NX ua uL uo um4)))) := by
    intro hd q
    have B := bad 2 (by decide) (by decide)
    unfold wp_X4_mask wp_X4_mask_23
    exact nf (fun z => by have := d1.mp z; omega) (w_lt (b := 1) hm (by unfold Sm; omega) (fun _ => B) (fun q1 => w_le (b := 2) hm (by unfold Sm; omega) (fun q2 => absurd ⟨q1, q2⟩ q) (fun _ => B)))
  obtain ⟨hc0, hc1, hc2, hcL⟩ := hC
  obtain ⟨a0, a1, a2, a3, a4, a5, a6, a7, a8, a9⟩ := hc0
  refine q_needGroup a7 J3 (fun hd => ?_) (fun hd => ⟨fun _ => bad1 hd, fun q => absurd rfl q⟩)
  have ok : (m = 1 ∨ m = 2) → wp_X3_mask_24 n (rg - 1) (fun r ua1 ub1 => (fun k5 ua1 uL2 uo3 => wp_X4_mask um (iI m) tu (fun b6 um4 => wp_X4_thrown um4 (fun tt => (tt = k5 ∧ ((k5 = 0 → uo3 0 = b6.toInt64) ∧ NX ua1 uL2 uo3 um4))))) 0 ua1 (va_up uL (rg - 1) ub1) (vp_updL uo 0 r.toInt64)) (fun E => ((E = "java/lang/IllegalStateException" → (fun k5 ua1 uL2 uo3 => wp_X4_mask um (iI m) tu (fun b6 um4 => wp_X4_thrown um4 (fun tt => (tt = k5 ∧ ((k5 = 0 → uo3 0 = b6.toInt64) ∧ NX ua1 uL2 uo3 um4))))) 1 ua uL uo) ∧ (¬ E = "java/lang/IllegalStateException" → (E = "java/lang/IllegalArgumentException" ∧ (fun k5 ua1 uL2 uo3 => wp_X4_mask um (iI m) tu (fun b6 um4 => wp_X4_thrown um4 (fun tt => (tt = k5 ∧ ((k5 = 0 → uo3 0 = b6.toInt64) ∧ NX ua1 uL2 uo3 um4))))) 2 ua uL uo)))) ua (uL (rg - 1)) (iI m) tu := by
    intro hk
    have mod : ∀ (P : Int32 → U2 → Prop), (d ≤ rg → ∀ um', RMs um' w h (d - 1) (rg - 1) bd true (fun p => if p < 144 then mkV m tu (cel (rg - 1) p) else mB p) cov t sy md → RG um' (rg - 1) cel kn → um' 0 0 = 0 → P (nI (d - 1)) um') → (rg < d → ∀ um', RMs um' w h (d - 1) rg bd mk mB cov t sy md → RG um' rg cel kn → um' 0 0 = 0 → P (nI (d - 1)) um') → wp_X4_mask um (iI m) tu P := by
      intro P h1 h2
      unfold wp_X4_mask
      refine nf (fun z => by have := d1.mp z; omega) (w_lt (b := 1) hm (by unfold Sm; omega) (fun _ => by omega) (fun q1 => w_le (b := 2) hm (by unfold Sm; omega) (fun q2 => ?_) (fun _ => by omega)))
      unfold wp_X4_mask_28
      intro u e
      refine bt (by rw [e, st_at]; decide) ?_
      have hMu : RMs u w h d rg bd mk mB cov t sy md := by rw [e]; exact hM.thr
      have hGu : RG u rg cel kn := by rw [e]; exact hG.thr
      refine m_leave hMu J1 J2 J3 hd (fun q u3 r1 r2 r3 => ?_) (fun q u3 r1 r2 r3 => ?_)
      · have hG3 : RG u3 (rg - 1 + 1) cel kn := by
          rw [show rg - 1 + 1 = rg by omega]
          refine hGu.keep ?_ ?_ ?_ ?_ ?_ ?_
          all_goals exact r3 _ (by decide)
        refine mm_mask (g := rg - 1) (by omega) r1 hG3 (by rw [r2, e, st_at]) K1 hk (fun u' z1 z2 z3 => ?_)
        rw [z1.1.2.2.2.1]
        exact h1 q u' z1 (z2.mono (by omega)) z3
      · refine ⟨1, ?_⟩
        rw [wp_X4_mask_48]
        refine bf (by decide) (bt rfl ?_)
        rw [r1.1.2.2.2.1]
        refine h2 q _ r1 (hGu.keep ?_ ?_ ?_ ?_ ?_ ?_) (by rw [r2, e, st_at])
        all_goals exact r3 _ (by decide)
    unfold wp_X3_mask_24
    refine q_flat a7 a8 J3 J4 (fun q => nt rfl ?_) (fun q => nf (by decide) ?_)
    · unfold wp_X3_leave
      have hh := q_here (n := n) (P := True) a8 J1 J4 trivial
      refine ⟨hh.1, hh.2.1, fun ua4 e4 => ?_⟩
      rw [a8, nI_m1 (by omega)] at e4
      have lo := hcL.2 (rg - 1) (by omega)
      have b2 : ua4 0 2 = nI n := by rw [e4, st_el (by decide)]; exact a2
      have bb2 : ∀ i, i < n → ua4 2 i = iI (mB (pt w i)) := by rw [e4, st_row (by decide)]; exact hc2
      refine cc_mask (g := rg - 1) I1 I2 I4 I5 I6 b2 bb2 K1 hk lo.2 (fun ua' hr hb => ?_)
      intro ua14 e14
      unfold wp_X3_mask_103
      intro ua2 e2
      have r0 : ∀ j, j ≠ 3 → j ≠ 8 → ua14 0 j = ua 0 j := fun j h3 h8 => by rw [e14, st_el h3, hr 0 (by decide), e4, st_el h8]
      rw [r0 7 (by decide) (by decide), a7, nI_m1 (by omega)] at e2
      have c72 : ua2 0 7 = nI (d - 1) := by rw [e2, st_at]
      rw [c72, up_same]
      refine mod _ (fun _ um' z1 z2 z3 => ?_) (fun q2 => by omega)
      have s0 : ∀ j, j ≠ 3 → j ≠ 8 → j ≠ 7 → ua2 0 j = ua 0 j := fun j h3 h8 h7 => by rw [e2, st_el h7]; exact r0 j h3 h8
      have hmB : ∀ p, Bt (if p < 144 then mkV m tu (cel (rg - 1) p) else mB p) := fun p => by split; exact mkV_b (K1 _ _); exact K2 p
      refine ⟨z3, fun _ => o_0, hN _ _ _ _ ⟨d - 1, rg - 1, bd, cel, kn, true, _, cov, t, sy, md, ⟨⟨I1, I2, I3, I4, I5, I6⟩, ⟨by omega, by omega, by omega, by omega, J5, J6⟩, K1, hmB, K3, K4⟩, ⟨⟨?_, ?_, ?_, ?_, ?_, ?_, ?_, c72, ?_, ?_⟩, ?_, fun i hi => ?_, hcL.mono (by omega)⟩, z1, z2⟩⟩
      · rw [s0 0 (by decide) (by decide) (by decide)]; exact a0
      · rw [s0 1 (by decide) (by decide) (by decide)]; exact a1
      · rw [s0 2 (by decide) (by decide) (by decide)]; exact a2
      · rw [e2, st_el (by decide), e14, st_at]
        exact ⟨fun q => absurd q (by decide), fun q => absurd q (by decide)⟩
      · rw [s0 4 (by decide) (by decide) (by decide)]; exact a4
      · rw [s0 5 (by decide) (by decide) (by decide)]; exact a5
      · rw [s0 6 (by decide) (by decide) (by decide)]; exact a6
      · rw [e2, st_el (by decide), e14, st_el (by decide), hr 0 (by decide), e4, st_at]
      · rw [s0 9 (by decide) (by decide) (by decide)]; exact a9
      · rw [e2, st_row (by decide), e14, st_row (by decide), hr 1 (by decide), e4, st_row (by decide)]; exact hc1
      · show _ = iI (if pt w i < 144 then mkV m tu (cel (rg - 1) (pt w i)) else mB (pt w i))
        rw [if_pos (pt_V I1 I2 I4 I5 hi).1, e2, st_row (by decide), e14, st_row (by decide)]
        exact hb i hi
    · unfold wp_X3_mask_103
      intro ua2 e2
      rw [a7, nI_m1 (by omega)] at e2
      have c72 : ua2 0 7 = nI (d - 1) := by rw [e2, st_at]
      rw [c72, up_same]
      refine mod _ (fun q2 => by omega) (fun _ um' z1 z2 z3 => ?_)
      refine ⟨z3, fun _ => o_0, hN _ _ _ _ ⟨d - 1, rg, bd, cel, kn, mk, mB, cov, t, sy, md, ⟨⟨I1, I2, I3, I4, I5, I6⟩, ⟨J1, by omega, by omega, J4, J5, J6⟩, K1, K2, K3, K4⟩, ⟨⟨?_, ?_, ?_, ?_, ?_, ?_, ?_, c72, ?_, ?_⟩, ?_, ?_, hcL⟩, z1, z2⟩⟩
      · rw [e2, st_el (by decide)]; exact a0
      · rw [e2, st_el (by decide)]; exact a1
      · rw [e2, st_el (by decide)]; exact a2
      · rw [e2, st_el (by decide)]; exact a3
      · rw [e2, st_el (by decide)]; exact a4
      · rw [e2, st_el (by decide)]; exact a5
      · rw [e2, st_el (by decide)]; exact a6
      · rw [e2, st_el (by decide)]; exact a8
      · rw [e2, st_el (by decide)]; exact a9
      · rw [e2, st_row (by decide)]; exact hc1
      · rw [e2, st_row (by decide)]; exact hc2
  refine w_eq (b := 1) hm (by unfold Sm; omega) (fun q => ok (Or.inl q)) (fun q => w_eq (b := 2) hm (by unfold Sm; omega) (fun q2 => ok (Or.inr q2)) (fun q2 => ⟨fun z => absurd z (by decide), fun _ => ⟨rfl, bad2 hd (by omega)⟩⟩))
