/-! group -/
theorem bg_bc {iso : Bool} {c : Cl} : pkF (bcF (bgC iso c)) = (if iso = true then 0 else pkF (cuF c)) := by
  cases iso with
  | true => rfl
  | false => rfl
theorem bg_cu {iso : Bool} {c : Cl} : pkF (cuF (bgC iso c)) = (if iso = true then 0 else pkF (cuF c)) := by
  cases iso with
  | true => rfl
  | false => rfl
theorem bg_3 {iso : Bool} {c : Cl} : bgC iso c 3 = (if iso = true then 0 else waS c) := rfl
theorem iso_x {x : Int32} {iso : Bool} (h : x = 0 ↔ iso = false) (q : ¬ x = 0) : iso = true := mk_t h q
theorem cc_begin {n w g : Nat} {ub uc : U2} {KX : U2 → U2 → Prop} {cel : Nat → Nat → Cl} {x1 : Int32} {iso : Bool} (I6 : n ≤ 144) (hx : x1 = 0 ↔ iso = false) (e0 : ub 0 0 = nI n) (hK1 : ∀ g p, CB (cel g p)) (hce : ∀ i, i < n → CC uc i (cel g (pt w i)))
    (hE : ∀ ub', ub' 0 = ub 0 → (∀ i, i < n → CC ub' i (bgC iso (cel g (pt w i)))) → KX ub' uc) :
    ∃ N, wp_X0_begin_8 n KX x1 N ub uc 0 := by
  refine upN0 (σ := U2) (fun N s i => wp_X0_begin_8 n KX x1 N s uc i) (fun i s => s 0 = ub 0 ∧ ∀ j, j < i → CC s j (bgC iso (cel g (pt w j)))) n ub ⟨rfl, fun j hj => by omega⟩ (fun N i u hi hs hn => ?_) (fun N u hs => ?_)
  · obtain ⟨s1, s2⟩ := hs
    rw [wp_X0_begin_8]
    have hci := hce i hi
    have hcb := hK1 g (pt w i)
    have hii := vin (N := n) hi (by omega)
    have fin : ∀ a b : Int, a = (if iso = true then 0 else pkF (cuF (cel g (pt w i)))) → b = (if iso = true then 0 else waS (cel g (pt w i))) → ∀ u3, u3 = st u 1 i (iI a) → wp_X0_begin_58 n (wp_X0_begin_8 n KX x1 N) u3 uc x1 (nI i) (iI b) (nI i) := by
      intro a b ea eb u3 e3
      unfold wp_X0_begin_58
      rw [ncl (by omega)]
      refine ⟨hii, fun u5 e5 => ⟨hii, hii, fun u6 e6 => ⟨hii, fun u7 e7 => ⟨hii, fun u8 e8 v9 e9 => ?_⟩⟩⟩⟩
      have g51 : u5 1 i = iI a := by rw [e5, st_row (by decide), e3, st_at]
      rw [g51] at e6
      subst e9
      rw [nI_1 i]
      refine hn u8 ⟨?_, fun j hj => ?_⟩
      · rw [e8, st_row (by decide), e7, st_row (by decide), e6, st_row (by decide), e5, st_row (by decide), e3, st_row (by decide)]; exact s1
      · by_cases q : j = i
        · rw [q]
          refine ⟨?_, ?_, ?_, ?_, ?_⟩
          · rw [e8, st_row (by decide), e7, st_row (by decide), e6, st_row (by decide), g51, bg_bc, ea]
          · rw [e8, st_row (by decide), e7, st_row (by decide), e6, st_row (by decide), e5, st_at, bg_3, eb]
          · rw [e8, st_row (by decide), e7, st_row (by decide), e6, st_at, bg_cu, ea]
          · rw [e8, st_row (by decide), e7, st_at]; rfl
          · rw [e8, st_at]; rfl
        · have : ∀ r, u8 r j = u r j := fun r => by
            rw [e8, st_get, if_neg (fun z => q z.2), e7, st_get, if_neg (fun z => q z.2), e6, st_get, if_neg (fun z => q z.2), e5, st_get, if_neg (fun z => q z.2), e3, st_get, if_neg (fun z => q z.2)]
          have hcj := s2 j (by omega)
          unfold CC at hcj ⊢
          rw [this, this, this, this, this]
          exact hcj
    have fin2 : ∀ a : Int, a = (if iso = true then 0 else pkF (cuF (cel g (pt w i)))) → wp_X0_begin_37 n (wp_X0_begin_8 n KX x1 N) u uc x1 (nI i) (iI a) (nI i) := by
      intro a ea
      unfold wp_X0_begin_37
      rw [ncl (by omega)]
      refine ⟨hii, fun u3 e3 => ⟨fun q => ?_, fun q => ?_⟩⟩
      · exact q_whole hi I6 hci.2.1 hci.2.2.2.1 (hcb 3 (by omega)) (hcb 7 (by omega)) (fin a _ ea (by rw [hx.mp q, if_neg (by decide)]; rfl) u3 e3)
      · exact fin a 0 ea (by rw [iso_x hx q, if_pos rfl]) u3 e3
    refine bf (by rw [s1, e0]; exact nI_ge hi (by omega)) ⟨fun q => ⟨hii, ?_⟩, fun q => fin2 0 (by rw [iso_x hx q, if_pos rfl])⟩
    rw [ncl (by omega), hci.2.2.1]
    exact fin2 _ (by rw [hx.mp q, if_neg (by decide)])
  · obtain ⟨s1, s2⟩ := hs
    rw [wp_X0_begin_8]
    exact bt (by rw [s1, e0]; exact nI_le (by omega) (by omega)) (hE u s1 s2)
def s35 (u : U2) (j k : Nat) (gg : Nat → Int32) : U2 := fun r i => if (r = 3 ∨ r = 5) ∧ 3 * j ≤ i ∧ i < 3 * j + k then gg (i - 3 * j) else u r i
theorem s35_0 (u : U2) (j : Nat) (gg : Nat → Int32) : s35 u j 0 gg = u := by
  funext r i
  unfold s35
  rw [if_neg (fun q => by omega)]
theorem s35_s (u : U2) (j k : Nat) (gg : Nat → Int32) : st (st (s35 u j k gg) 3 (3 * j + k) (gg k)) 5 (3 * j + k) (gg k) = s35 u j (k + 1) gg := by
  funext r i
  rw [st_get, st_get]
  unfold s35
  by_cases e : i = 3 * j + k
  · subst e
    have ek : 3 * j + k - 3 * j = k := by omega
    by_cases h5 : r = 5
    · rw [if_pos ⟨h5, rfl⟩, if_pos ⟨Or.inr h5, by omega, by omega⟩, ek]
    · by_cases h3 : r = 3
      · rw [if_neg (fun q => h5 q.1), if_pos ⟨h3, rfl⟩, if_pos ⟨Or.inl h3, by omega, by omega⟩, ek]
      · rw [if_neg (fun q => h5 q.1), if_neg (fun q => h3 q.1), if_neg (fun q => by omega), if_neg (fun q => by omega)]
  · rw [if_neg (fun q => e q.2), if_neg (fun q => e q.2)]
    by_cases h : (r = 3 ∨ r = 5) ∧ 3 * j ≤ i ∧ i < 3 * j + k
    · rw [if_pos h, if_pos ⟨h.1, h.2.1, by omega⟩]
    · rw [if_neg h, if_neg (fun q => h ⟨q.1, q.2.1, by omega⟩)]
theorem mm_group {um : U2} {KX : U2 → Prop} {g : Nat} {cel : Nat → Nat → Cl} {kn : Nat → Bool} {x1 : Int32} {iso : Bool} (J4 : g + 1 < 6) (hx : x1 = 0 ↔ iso = false) (hG : RG um (g + 1) cel kn) (hK1 : ∀ g p, CB (cel g p))
    (hE : ∀ um', (∀ r, r ≠ 3 → r ≠ 4 → r ≠ 5 → r ≠ 6 → r ≠ 7 → um' r = um r) → RG um' (g + 1) cel kn → (∀ p, p < 144 → CM um' (144 * (g + 1) + p) (bgC iso (cel g p))) → KX um') :
    ∃ N, wp_X4_group_124 KX x1 (nI (g + 1)) N um 0 := by
  refine upN0 (σ := U2) (fun N s i => wp_X4_group_124 KX x1 (nI (g + 1)) N s i) (fun p s => (∀ r, r ≠ 3 → r ≠ 4 → r ≠ 5 → r ≠ 6 → r ≠ 7 → s r = um r) ∧ RG s (g + 1) cel kn ∧ ∀ q, q < p → CM s (144 * (g + 1) + q) (bgC iso (cel g q))) 144 um ⟨fun _ _ _ _ _ _ => rfl, hG, fun q hq => by omega⟩ (fun N p u hp hs hn => ?_) (fun N u hs => ?_)
  · obtain ⟨s1, s2, z3⟩ := hs
    rw [wp_X4_group_124]
    have hcm := (s2 g (by omega)).2 p hp
    have hcb := hK1 g p
    refine bf (nI_ge (b := 144) hp (by omega)) (fun v8 e8 => ?_)
    rw [e_cell] at e8
    subst e8
    generalize ej : 144 * (g + 1) + p = j
    have hj : j < 1152 := by omega
    have hji := vin (N := 1152) hj (by omega)
    have fin : ∀ b : Int, b = (if iso = true then 0 else waS (cel g p)) → wp_X4_group_167 (wp_X4_group_124 KX x1 (nI (g + 1)) N) u x1 (nI (g + 1)) (nI p) (nI j) (iI b) (nI j) := by
      intro b eb
      unfold wp_X4_group_167
      rw [ncl (by omega)]
      refine ⟨hji, fun u10 e10 => ⟨hji, fun u11 e11 => ⟨hji, fun u12 e12 => ?_⟩⟩⟩
      have hcm12 : ∀ k, k < 3 → u12 5 (3 * (144 * g + p) + k) = iI (cel g p (4 + k)) := fun k hk => by
        rw [e12, st_row (by decide), e11, st_row (by decide), e10, st_row (by decide)]
        exact hcm.2.2.1 k hk
      refine upN0 (σ := U2) (fun N' s i => wp_X4_group_187 (fun um18 => ∀ v19, v19 = nI p + 1 → wp_X4_group_124 KX x1 (nI (g + 1)) N um18 v19) x1 (nI (g + 1)) (nI p) (nI j) N' s i) (fun k s => s = s35 u12 j k (fun k => iI (if iso = true then 0 else cel g p (4 + k)))) 3 u12 (s35_0 _ _ _).symm (fun N2 k s hk hs2 hn2 => ?_) (fun N2 s hs2 => ?_)
      · rw [wp_X4_group_187]
        have e3 : (3 * (nI j - 144)) + nI k = nI (3 * (144 * g + p) + k) := by
          have : nI j - 144 = nI (144 * g + p) := by
            rw [← ej, show (144 : Int32) = nI 144 from rfl, iI_n, iI_n, iI_n, isub]
            congr 1
            omega
          rw [this, e_c3]
        rw [e3, ncl (show 3 * (144 * g + p) + k < 2147483648 by omega)]
        have hk3 := vin (k := 3 * j + k) (N := 3456) (by omega) (by omega)
        have fin2 : ∀ z : Int, z = (if iso = true then 0 else cel g p (4 + k)) → wp_X4_group_217 (wp_X4_group_187 (fun um18 => ∀ v19, v19 = nI p + 1 → wp_X4_group_124 KX x1 (nI (g + 1)) N um18 v19) x1 (nI (g + 1)) (nI p) (nI j) N2) s x1 (nI (g + 1)) (nI p) (nI j) (nI k) (iI z) := by
          intro z ez
          unfold wp_X4_group_217
          rw [e_c3, ncl (show 3 * j + k < 2147483648 by omega)]
          refine ⟨hk3, fun u13 e13 => ⟨hk3, fun u14 e14 v15 e15 => ?_⟩⟩
          subst e15
          rw [nI_1 k]
          refine hn2 u14 ?_
          rw [e14, e13, ez, hs2]
          exact s35_s u12 j k (fun k => iI (if iso = true then 0 else cel g p (4 + k)))
        have hs5 : s 5 (3 * (144 * g + p) + k) = iI (cel g p (4 + k)) := by
          rw [hs2]
          unfold s35
          rw [if_neg (fun q => by omega)]
          exact hcm12 k hk
        refine bf (i3n hk) ⟨fun q => ⟨vin (by omega) (by omega), ?_⟩, fun q => fin2 0 (by rw [iso_x hx q, if_pos rfl])⟩
        rw [hs5]
        exact fin2 _ (by rw [hx.mp q, if_neg (by decide)])
      · rw [wp_X4_group_187]
        refine bt (by decide) (fun v19 e19 => ?_)
        subst e19
        rw [nI_1 p]
        have t35 : ∀ r, r ≠ 3 → r ≠ 5 → s r = u12 r := fun r h3 h5 => by
          rw [hs2]
          funext i
          unfold s35
          rw [if_neg (fun q => by omega)]
        have o35 : ∀ r i, (i < 3 * j ∨ 3 * j + 3 ≤ i) → s r i = u12 r i := fun r i hi => by
          rw [hs2]
          unfold s35
          rw [if_neg (fun q => by omega)]
        have i35 : ∀ r k, (r = 3 ∨ r = 5) → k < 3 → s r (3 * j + k) = iI (if iso = true then 0 else cel g p (4 + k)) := fun r k hr hk => by
          rw [hs2]
          unfold s35
          rw [if_pos ⟨hr, by omega, by omega⟩, Nat.add_sub_cancel_left]
        have h4 : ∀ q, q ≠ j → s 4 q = u 4 q ∧ s 6 q = u 6 q ∧ s 7 q = u 7 q := fun q hq => by
          rw [t35 4 (by decide) (by decide), t35 6 (by decide) (by decide), t35 7 (by decide) (by decide)]
          refine ⟨?_, ?_, ?_⟩
          · rw [e12, st_row (by decide), e11, st_row (by decide), e10, st_el hq]
          · rw [e12, st_row (by decide), e11, st_el hq, e10, st_row (by decide)]
          · rw [e12, st_el hq, e11, st_row (by decide), e10, st_row (by decide)]
        have h35 : ∀ r i, (r = 3 ∨ r = 5) → (i < 3 * j ∨ 3 * j + 3 ≤ i) → s r i = u r i := fun r i hr hi => by
          rw [o35 r i hi, e12, st_row (by omega), e11, st_row (by omega), e10, st_row (by omega)]
        have hr : ∀ r, r ≠ 3 → r ≠ 4 → r ≠ 5 → r ≠ 6 → r ≠ 7 → s r = u r := fun r q3 q4 q5 q6 q7 => by
          rw [t35 r q3 q5, e12, st_row q7, e11, st_row q6, e10, st_row q4]
        have cmk : ∀ i c, i ≠ j → CM u i c → CM s i c := by
          intro i c hne hc
          obtain ⟨c1, c2, c3, c4, c5⟩ := hc
          refine ⟨fun k hk => ?_, ?_, fun k hk => ?_, ?_, ?_⟩
          · rw [h35 3 _ (Or.inl rfl) (by omega)]; exact c1 k hk
          · rw [(h4 i hne).1]; exact c2
          · rw [h35 5 _ (Or.inr rfl) (by omega)]; exact c3 k hk
          · rw [(h4 i hne).2.1]; exact c4
          · rw [(h4 i hne).2.2]; exact c5
        refine hn s ⟨fun r q3 q4 q5 q6 q7 => by rw [hr r q3 q4 q5 q6 q7]; exact s1 r q3 q4 q5 q6 q7, fun g' hg' => ⟨?_, fun p' hp' => cmk _ _ (by omega) ((s2 g' hg').2 p' hp')⟩, fun q hq => ?_⟩
        · rw [hr 2 (by decide) (by decide) (by decide) (by decide) (by decide)]; exact (s2 g' hg').1
        · by_cases e : q = p
          · rw [e, ej]
            refine ⟨fun k hk => ?_, ?_, fun k hk => ?_, ?_, ?_⟩
            · rw [i35 3 k (Or.inl rfl) hk]
              unfold bgC
              rw [if_pos hk]
            · rw [t35 4 (by decide) (by decide), e12, st_row (by decide), e11, st_row (by decide), e10, st_at, bg_3, eb]
            · rw [i35 5 k (Or.inr rfl) hk]
              unfold bgC
              rw [if_neg (show ¬ 4 + k < 3 by omega), if_neg (show ¬ 4 + k = 3 by omega), if_pos (show 4 + k < 7 by omega)]
            · rw [t35 6 (by decide) (by decide), e12, st_row (by decide), e11, st_at]; rfl
            · rw [t35 7 (by decide) (by decide), e12, st_at]; rfl
          · exact cmk _ _ (by omega) (z3 q (by omega))
    refine ⟨fun q => ?_, fun q => fin 0 (by rw [iso_x hx q, if_pos rfl])⟩
    rw [nI_pred]
    exact q_alphaOf (by omega) hcm.2.1 hcm.2.2.2.1 (hcb 3 (by omega)) (hcb 7 (by omega)) (fin _ (by rw [hx.mp q, if_neg (by decide)]; rfl))
  · obtain ⟨s1, s2, z3⟩ := hs
    rw [wp_X4_group_124]
    exact bt (by decide) (hE u s1 s2 z3)
theorem bz_b (x : Int32) : bz (bI x) := by
  rcases bI_c x with e | e
  · rw [e]; exact ⟨rfl, rfl⟩
  · rw [e]; exact ⟨rfl, rfl⟩
theorem nar_b (x : Int32) : vp_nar .boolean (bI x) = bI x := by
  rcases bI_c x with e | e
  · rw [e]; rfl
  · rw [e]; rfl
theorem ex_b (x : Int32) : ∃ b : Bool, x = 0 ↔ b = false := by
  by_cases h : x = 0
  · exact ⟨false, fun _ => rfl, fun _ => h⟩
  · exact ⟨true, fun q => absurd q h, fun q => absurd q (by decide)⟩
theorem case_group {L : Nat} {xs : Nat → Int32} {w h n : Nat} {NX : NT} {x4 : Int32} {ua : U2} {uL : U3} {uo : Nat → Int64} {um : U2} (hR : RR w h n ua uL um) (i1 : vp_in (x4 + 1) L) (i2 : vp_in (x4 + 2) L) (hN : ∀ ua' uL' uo' um', RR w h n ua' uL' um' → NX ua' uL' uo' um') : wp_case_group L xs n NX x4 ua uL uo um := by
  obtain ⟨d, rg, bd, cel, kn, mk, mB, cov, t, sy, md, hI, hC, hM, hG⟩ := hR
  have hRt : ∀ v, RR w h n ua uL (st um 0 0 v) := fun v => ⟨d, rg, bd, cel, kn, mk, mB, cov, t, sy, md, hI, hC, hM.thr, hG.thr⟩
  obtain ⟨⟨I1, I2, I3, I4, I5, I6⟩, ⟨J1, J2, J3, J4, J5, J6⟩, K1, K2, K3, K4⟩ := hI
  unfold wp_case_group wp_L_group wp_X3_group
  refine ⟨i1, i2, if rg ≤ 5 then rg - 1 else 0, by split <;> omega, ?_⟩
  have hbz := bz_b (xs (x4 + 2).toNatClampNeg)
  have hnar := nar_b (xs (x4 + 2).toNatClampNeg)
  generalize bI (xs (x4 + 1).toNatClampNeg) = p1
  generalize bI (xs (x4 + 2).toNatClampNeg) = p2 at hbz hnar ⊢
  obtain ⟨iso, hiso⟩ := ex_b p1
  obtain ⟨kb, hkb⟩ := ex_b p2
  obtain ⟨hc0, hc1, hc2, hcL⟩ := hC
  obtain ⟨a0, a1, a2, a3, a4, a5, a6, a7, a8, a9⟩ := hc0
  have m4 : um 0 4 = nI d := hM.1.2.2.2.1
  have d1 : um 0 4 = 40 ↔ d = 40 := by
    rw [m4, show (40 : Int32) = nI 40 from rfl, nI_eq (by omega) (by omega)]
  have mod : d < 40 → ∀ (P : Int32 → U2 → Prop), ((d ≤ rg ∧ d < bd) → ∀ um', RMs um' w h (d + 1) (rg + 1) bd mk mB cov t sy md → RG um' (rg + 1) (fun g p => if g = rg then bgC iso (cel (rg - 1) p) else cel g p) (fun g => if g = rg then kb else kn g) → um' 0 0 = 0 → P (nI (d + 1)) um') → (¬ (d ≤ rg ∧ d < bd) → ∀ um', RMs um' w h (d + 1) rg bd mk mB cov t sy md → RG um' rg cel kn → um' 0 0 = 0 → P (nI (d + 1)) um') → wp_X4_group um p1 p2 P := by
    intro hd P h1 h2
    unfold wp_X4_group
    refine nf (fun z => by have := d1.mp z; omega) ?_
    unfold wp_X4_group_15
    intro u e
    refine bt (by rw [e, st_at]; decide) ?_
    have hMu : RMs u w h d rg bd mk mB cov t sy md := by rw [e]; exact hM.thr
    have hGu : RG u rg cel kn := by rw [e]; exact hG.thr
    have u00 : u 0 0 = 0 := by rw [e, st_at]
    have hMu' := hMu
    obtain ⟨⟨m1, m2, m3, m4, m5, m6, m7⟩, hm1, hm8, hm9, hm10, hm11⟩ := hMu'
    rw [m4, ncl (by omega), hm1 d (Nat.le_refl d)]
    refine ⟨vin (by omega) (by omega), ?_⟩
    have flat : ∀ u2, u2 = st u 0 4 (nI (d + 1)) → ¬ (d ≤ rg ∧ d < bd) → wp_X4_group_71 P u2 := by
      intro u2 e2 q
      unfold wp_X4_group_71
      have g4 : u2 0 4 = nI (d + 1) := by rw [e2, st_at]
      rw [g4, ncl (by omega)]
      refine ⟨vin (by omega) (by omega), fun u3 e3 => ?_⟩
      have g43 : u3 0 4 = nI (d + 1) := by rw [e3, st_row (by decide)]; exact g4
      rw [g43]
      refine h2 q u3 ⟨⟨?_, ?_, ?_, g43, ?_, ?_, ?_⟩, ?_, ?_, ?_, ?_, ?_⟩ ?_ ?_
      · rw [e3, st_row (by decide), e2, st_el (by decide)]; exact m1
      · rw [e3, st_row (by decide), e2, st_el (by decide)]; exact m2
      · rw [e3, st_row (by decide), e2, st_el (by decide)]; exact m3
      · rw [e3, st_row (by decide), e2, st_el (by decide)]; exact m5
      · rw [e3, st_row (by decide), e2, st_el (by decide)]; exact m6
      · rw [e3, st_row (by decide), e2, st_el (by decide)]; exact m7
      · intro e' he'
        by_cases z : e' = d + 1
        · rw [z, e3, st_at, if_neg (by omega)]
        · rw [e3, st_el z, e2, st_row (by decide)]; exact hm1 e' (by omega)
      · rw [e3, st_row (by decide), e2, st_row (by decide)]; exact hm8
      · rw [e3, st_row (by decide), e2, st_row (by decide)]; exact hm9
      · rw [e3, st_row (by decide), e2, st_row (by decide)]; exact hm10
      · rw [e3, st_row (by decide), e2, st_row (by decide)]; exact hm11
      · rw [e3, e2]; exact hGu.thr.row (by decide) (by decide) (by decide) (by decide) (by decide) (by decide)
      · rw [e3, st_row (by decide), e2, st_el (by decide)]; exact u00
    by_cases q : d ≤ rg
    · rw [if_pos q]
      have ne : ¬ nI (d - 1) = -1 := by
        rw [show (-1 : Int32) = iI (-1) from rfl, iI_n, iI_eq (by omega) (by omega) (by omega) (by omega)]
        omega
      refine nf ne ?_
      unfold wp_X4_group_45
      intro u2 e2
      rw [m4, nI_1 d] at e2
      have g4 : u2 0 4 = nI (d + 1) := by rw [e2, st_at]
      have g3 : u2 0 3 = nI bd := by rw [e2, st_el (by decide)]; exact m3
      have g5 : u2 0 5 = nI rg := by rw [e2, st_el (by decide)]; exact m5
      refine nt rfl ?_
      rw [g4, g3, g5]
      by_cases q2 : d < bd
      · refine bt (nI_le (by omega) (by omega)) (fun v4 e4 u5 e5 => ?_)
        subst e4
        rw [nI_1 rg] at e5
        have g45 : u5 0 4 = nI (d + 1) := by rw [e5, st_el (by decide)]; exact g4
        rw [g45, ncl (show d + 1 < 2147483648 by omega), ncl (show rg < 2147483648 by omega), hnar]
        refine ⟨vin (by omega) (by omega), fun u6 e6 => ⟨vin (by omega) (by omega), fun u7 e7 => ?_⟩⟩
        obtain ⟨g, eg⟩ : ∃ g, rg = g + 1 := ⟨rg - 1, by omega⟩
        subst eg
        have hr7 : ∀ r, r ≠ 0 → r ≠ 1 → r ≠ 2 → u7 r = u r := fun r h0 h1 h2 => by rw [e7, st_row h2, e6, st_row h1, e5, st_row h0, e2, st_row h0]
        have hG7 : RG u7 (g + 1) cel kn := fun g' hg' => by
          refine ⟨?_, fun p hp => ((hGu g' hg').2 p hp).keep ?_ ?_ ?_ ?_ ?_⟩
          · rw [e7, st_el (by omega), e6, st_row (by decide), e5, st_row (by decide), e2, st_row (by decide)]; exact (hGu g' hg').1
          all_goals exact hr7 _ (by decide) (by decide) (by decide)
        refine mm_group (g := g) (iso := iso) (by omega) hiso hG7 K1 (fun u' z1 z2 z3 => ?_)
        have z0 : u' 0 = u7 0 := z1 0 (by decide) (by decide) (by decide) (by decide) (by decide)
        have y0 : ∀ j, j ≠ 4 → j ≠ 5 → u' 0 j = u 0 j := fun j h4 h5 => by rw [z0, e7, st_row (by decide), e6, st_row (by decide), e5, st_el h5, e2, st_el h4]
        have y4 : u' 0 4 = nI (d + 1) := by rw [z0, e7, st_row (by decide), e6, st_row (by decide)]; exact g45
        rw [y4]
        refine h1 ⟨q, q2⟩ u' ⟨⟨?_, ?_, ?_, y4, ?_, ?_, ?_⟩, ?_, ?_, ?_, ?_, ?_⟩ (fun g' hg' => ?_) (by rw [y0 0 (by decide) (by decide)]; exact u00)
        · rw [y0 1 (by decide) (by decide)]; exact m1
        · rw [y0 2 (by decide) (by decide)]; exact m2
        · rw [y0 3 (by decide) (by decide)]; exact m3
        · rw [z0, e7, st_row (by decide), e6, st_row (by decide), e5, st_at]
        · rw [y0 6 (by decide) (by decide)]; exact m6
        · rw [y0 7 (by decide) (by decide)]; exact m7
        · intro e' he'
          rw [z1 1 (by decide) (by decide) (by decide) (by decide) (by decide), e7, st_row (by decide)]
          by_cases z : e' = d + 1
          · rw [z, e6, st_at, if_pos (by omega)]
            congr 1
            omega
          · rw [e6, st_el z, e5, st_row (by decide), e2, st_row (by decide), hm1 e' (by omega), if_pos (by omega), if_pos (by omega)]
        · rw [z1 8 (by decide) (by decide) (by decide) (by decide) (by decide), hr7 8 (by decide) (by decide) (by decide)]; exact hm8
        · rw [z1 9 (by decide) (by decide) (by decide) (by decide) (by decide), hr7 9 (by decide) (by decide) (by decide)]; exact hm9
        · rw [z1 10 (by decide) (by decide) (by decide) (by decide) (by decide), hr7 10 (by decide) (by decide) (by decide)]; exact hm10
        · rw [z1 11 (by decide) (by decide) (by decide) (by decide) (by decide), hr7 11 (by decide) (by decide) (by decide)]; exact hm11
        · by_cases z : g' = g + 1
          · rw [z]
            dsimp only
            rw [if_pos rfl]
            refine ⟨?_, fun p hp => ?_⟩
            · rw [z1 2 (by decide) (by decide) (by decide) (by decide) (by decide), e7, st_at]; exact hkb
            · rw [if_pos rfl]
              exact z3 p hp
          · dsimp only
            rw [if_neg z]
            refine ⟨(z2 g' (by omega)).1, fun p hp => ?_⟩
            rw [if_neg z]
            exact (z2 g' (by omega)).2 p hp
      · exact bf (fun z => by
          rw [iI_n, iI_n, iI_le (by omega) (by omega) (by omega) (by omega)] at z
          omega) (flat u2 e2 (fun z => q2 z.2))
    · rw [if_neg q]
      refine nt rfl ?_
      unfold wp_X4_group_45
      intro u2 e2
      rw [m4, nI_1 d] at e2
      exact nf (by decide) (flat u2 e2 (fun z => q z.1))
  have P40 : ua 0 7 < 40 ↔ d < 40 := by
    rw [a7, show (40 : Int32) = iI 40 from rfl, iI_n, iI_lt (by omega) (by omega) (by omega) (by omega)]
    omega
  have flatC : d < 40 → ¬ (d ≤ rg ∧ d < bd) → ∀ (PX : String → Prop), wp_X3_group_37 n ((if rg ≤ 5 then rg - 1 else 0) + 1) (if rg ≤ 5 then rg - 1 else 0) (fun r ua1 ub1 uc1 => (fun k5 ua1 uL2 uo3 => wp_X4_group um p1 p2 (fun b6 um4 => wp_X4_thrown um4 (fun tt => (tt = k5 ∧ ((k5 = 0 → uo3 0 = b6.toInt64) ∧ NX ua1 uL2 uo3 um4))))) 0 ua1 (va_up (va_up uL ((if rg ≤ 5 then rg - 1 else 0) + 1) ub1) (if rg ≤ 5 then rg - 1 else 0) uc1) (vp_updL uo 0 r.toInt64)) PX ua (uL ((if rg ≤ 5 then rg - 1 else 0) + 1)) (uL (if rg ≤ 5 then rg - 1 else 0)) p1 p2 := by
    intro hd q PX
    unfold wp_X3_group_37 wp_X3_group_42
    refine nf (by decide) ?_
    unfold wp_X3_group_75
    intro ua2 e2
    rw [a7, nI_1 d] at e2
    have c72 : ua2 0 7 = nI (d + 1) := by rw [e2, st_at]
    rw [c72, up_same, up_same]
    refine mod hd _ (fun z => absurd z q) (fun _ um' z1 z2 z3 => ?_)
    refine ⟨z3, fun _ => o_0, hN _ _ _ _ ⟨d + 1, rg, bd, cel, kn, mk, mB, cov, t, sy, md, ⟨⟨I1, I2, I3, I4, I5, I6⟩, ⟨J1, by omega, by omega, J4, J5, J6⟩, K1, K2, K3, K4⟩, ⟨⟨?_, ?_, ?_, ?_, ?_, ?_, ?_, c72, ?_, ?_⟩, ?_, ?_, hcL⟩, z1, z2⟩⟩
    · rw [e2, st_el (by decide)]; exact a0
    · rw [e2, st_el (by decide)]; exact a1
    · rw [e2, st_el (by decide)]; exact a2
    · rw [e2, st_el (by decide)]; exact a3
    · rw [e2, st_el (by decide)]; exact a4
    · rw [e2, st_el (by decide)]; exact a5
    · rw [e2, st_el (by decide)]; exact a6
    · rw [e2, st_el (by decide)]; exact a8
    · rw [e2, st_el (by decide)]; exact a9
    · rw [e2, st_row (by decide)]; exact hc1
    · rw [e2, st_row (by decide)]; exact hc2
  refine ⟨fun hlt => ?_, fun hlt => ⟨rfl, ?_⟩⟩
  · have hd := P40.mp hlt
    refine q_flat a7 a8 J3 J4 (fun q => nt rfl ?_) (fun q => nf (by decide) (flatC hd (fun z => by omega) _))
    have lt2 : ua 0 7 < ua 0 6 ↔ d < bd := by
      rw [a7, a6, iI_n, iI_n, iI_lt (by omega) (by omega) (by omega) (by omega)]
      omega
    refine ⟨fun q2 => ?_, fun q2 => flatC hd (fun z => q2 (lt2.mpr z.2)) _⟩
    have q3 := lt2.mp q2
    obtain ⟨g, eg⟩ : ∃ g, rg = g + 1 := ⟨rg - 1, by omega⟩
    subst eg
    have hj : (if g + 1 ≤ 5 then g + 1 - 1 else 0) = g := by rw [if_pos (by omega)]; omega
    rw [hj]
    unfold wp_X3_group_42
    refine nt rfl ?_
    rw [a8, ncl (by omega)]
    have hh := q_here (n := n) (P := True) a8 J1 J4 trivial
    refine ⟨vin (by omega) (by omega), rfl, hh.1, hh.2.1, ?_⟩
    unfold wp_X0_begin
    refine ⟨hbz, fun ub1 e1 => ?_⟩
    have lo := hcL.2 g (by omega)
    have b0 : ub1 0 0 = nI n := by rw [e1, st_el (by decide)]; exact hcL.1 (g + 1) (by omega)
    refine cc_begin (g := g) (iso := iso) I6 hiso b0 K1 lo.2 (fun ub' hu0 hcc => ?_)
    intro ua7 e7
    unfold wp_X3_group_75
    intro ua2 e2
    have c7 : ua7 0 7 = nI d := by rw [e7, st_el (by decide)]; exact a7
    rw [c7, nI_1 d] at e2
    have c72 : ua2 0 7 = nI (d + 1) := by rw [e2, st_at]
    rw [c72]
    refine mod hd _ (fun _ um' z1 z2 z3 => ?_) (fun z => absurd ⟨q, q3⟩ z)
    have hL2 : RLy (va_up (va_up uL (g + 1) ub') g (uL g)) w n (g + 1 + 1) (fun g' p => if g' = g + 1 then bgC iso (cel (g + 1 - 1) p) else cel g' p) (fun g' => if g' = g + 1 then kb else kn g') := by
      have : va_up (va_up uL (g + 1) ub') g (uL g) = va_up uL (g + 1) ub' := by
        funext g'
        unfold va_up
        by_cases z : g' = g
        · rw [if_pos z, if_neg (by omega), z]
        · rw [if_neg z]
      rw [this]
      refine ⟨fun g' hg' => ?_, fun g' hg' => ?_⟩
      · by_cases z : g' = g + 1
        · rw [z, up_at, hu0]; exact b0
        · rw [up_ne z]; exact hcL.1 g' hg'
      · by_cases z : g' = g + 1
        · rw [z, up_at]
          dsimp only
          rw [if_pos rfl]
          refine ⟨?_, fun i hi => ?_⟩
          · rw [hu0, e1, st_at]; exact hkb
          · rw [if_pos rfl]
            exact hcc i hi
        · rw [up_ne z]
          dsimp only
          rw [if_neg z]
          refine ⟨(hcL.2 g' (by omega)).1, fun i hi => ?_⟩
          rw [if_neg z]
          exact (hcL.2 g' (by omega)).2 i hi
    have hcel : ∀ g' p, CB (if g' = g + 1 then bgC iso (cel (g + 1 - 1) p) else cel g' p) := fun g' p => by
      split
      · exact bgC_b (K1 _ _)
      · exact K1 _ _
    refine ⟨z3, fun _ => o_0, hN _ _ _ _ ⟨d + 1, g + 1 + 1, bd, _, _, mk, mB, cov, t, sy, md, ⟨⟨I1, I2, I3, I4, I5, I6⟩, ⟨by omega, by omega, by omega, by omega, J5, J6⟩, hcel, K2, K3, K4⟩, ⟨⟨?_, ?_, ?_, ?_, ?_, ?_, ?_, c72, ?_, ?_⟩, ?_, ?_, hL2⟩, z1, z2⟩⟩
    · rw [e2, st_el (by decide), e7, st_el (by decide)]; exact a0
    · rw [e2, st_el (by decide), e7, st_el (by decide)]; exact a1
    · rw [e2, st_el (by decide), e7, st_el (by decide)]; exact a2
    · rw [e2, st_el (by decide), e7, st_el (by decide)]; exact a3
    · rw [e2, st_el (by decide), e7, st_el (by decide)]; exact a4
    · rw [e2, st_el (by decide), e7, st_el (by decide)]; exact a5
    · rw [e2, st_el (by decide), e7, st_el (by decide)]; exact a6
    · rw [e2, st_el (by decide), e7, st_at, nI_1]
    · rw [e2, st_el (by decide), e7, st_el (by decide)]; exact a9
    · rw [e2, st_row (by decide), e7, st_row (by decide)]; exact hc1
    · rw [e2, st_row (by decide), e7, st_row (by decide)]; exact hc2
  · have hd : d = 40 := by
      have : ¬ d < 40 := fun z => hlt (P40.mpr z)
      omega
    unfold wp_X4_group
    refine nt (d1.mpr hd) ?_
    unfold wp_X4_group_15
    intro u e
    subst e
    exact bf (by rw [st_at]; decide) ⟨st_at, fun q => absurd q (by decide), hN _ _ _ _ (hRt 1)⟩
