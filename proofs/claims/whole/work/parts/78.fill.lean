/-! fill -/
theorem upZ {σ : Type} (W : Nat → σ → Int32 → Prop) (I : Int → σ → Prop) (b : Int) (hs : ∀ N r s, r ≤ b → I r s → (∀ s', I (r + 1) s' → W N s' (iI (r + 1))) → W (N + 1) s (iI r)) (he : ∀ N r s, b < r → I r s → W (N + 1) s (iI r)) : ∀ (k : Nat) (r : Int) (s : σ), b - r < k → I r s → W (k + 1) s (iI r) := by
  intro k
  induction k with
  | zero =>
    intro r s e hi
    exact he 0 r s (by omega) hi
  | succ k ih =>
    intro r s e hi
    by_cases q : r ≤ b
    · exact hs (k + 1) r s q hi (fun s' h' => ih (r + 1) s' (by omega) h')
    · exact he (k + 1) r s (by omega) hi
def fiS (x y x2 y2 v : Int) (cov : Nat → Int) (r c : Int) (p : Nat) : Int := if x ≤ ((p % 12 : Nat) : Int) ∧ ((p % 12 : Nat) : Int) ≤ x2 ∧ y ≤ ((p / 12 : Nat) : Int) ∧ ((p / 12 : Nat) : Int) ≤ y2 ∧ (((p / 12 : Nat) : Int) < r ∨ (((p / 12 : Nat) : Int) = r ∧ ((p % 12 : Nat) : Int) < c)) then v else cov p
def fmS (x y x2 y2 v : Int) (cov : Nat → Int) (h i j : Nat) (p : Nat) : Int := if x ≤ ((p % 12 : Nat) : Int) ∧ ((p % 12 : Nat) : Int) ≤ x2 ∧ y ≤ ((p / 12 : Nat) : Int) ∧ ((p / 12 : Nat) : Int) ≤ y2 ∧ p / 12 < h ∧ (p % 12 < i ∨ (p % 12 = i ∧ p / 12 < j)) then v else cov p
theorem ite_iff {A B : Prop} [Decidable A] [Decidable B] {x y : Int} (h : A ↔ B) : (if A then x else y) = (if B then x else y) := by
  by_cases q : A
  · rw [if_pos q, if_pos (h.mp q)]
  · rw [if_neg q, if_neg (fun z => q (h.mpr z))]
theorem cc_fill {n w h : Nat} {ua : U2} {KX : U2 → Prop} {cov : Nat → Int} {x y x2 y2 v : Int} (I1 : 1 ≤ w) (I2 : w ≤ 12) (I3 : 1 ≤ h) (I4 : h ≤ 12) (I5 : w * h = n) (I6 : n ≤ 144) (hx : Sm x) (hy : Sm y) (hx2 : Sm x2) (hy2 : Sm y2) (e0 : ua 0 0 = nI w) (c1 : ∀ i, i < n → ua 1 i = iI (cov (pt w i)))
    (hE : ∀ ua', (∀ r, r ≠ 1 → ua' r = ua r) → (∀ i, i < n → ua' 1 i = iI (fmS x y x2 y2 v cov h w 0 (pt w i))) → KX ua') :
    ∃ N, wp_X3_fill_37 n KX (iI x) (iI v) (iI (if (w : Int) - 1 < x2 then (w : Int) - 1 else x2)) (iI (if (h : Int) - 1 < y2 then (h : Int) - 1 else y2)) N ua (iI (if y < 0 then 0 else y)) := by
  generalize eR : (if (w : Int) - 1 < x2 then (w : Int) - 1 else x2) = R
  generalize eB : (if (h : Int) - 1 < y2 then (h : Int) - 1 else y2) = B
  have hR1 : R ≤ (w : Int) - 1 ∧ R ≤ x2 ∧ (R = (w : Int) - 1 ∨ R = x2) := by rw [← eR]; split <;> omega
  have hB1 : B ≤ (h : Int) - 1 ∧ B ≤ y2 ∧ (B = (h : Int) - 1 ∨ B = y2) := by rw [← eB]; split <;> omega
  unfold Sm at hx hy hx2 hy2
  have hy0 : 0 ≤ (if y < 0 then 0 else y) ∧ y ≤ (if y < 0 then 0 else y) ∧ ((if y < 0 then 0 else y) = 0 ∨ (if y < 0 then 0 else y) = y) := by split <;> omega
  have hx0 : 0 ≤ (if x < 0 then 0 else x) ∧ x ≤ (if x < 0 then 0 else x) ∧ ((if x < 0 then 0 else x) = 0 ∨ (if x < 0 then 0 else x) = x) := by split <;> omega
  have ex0 : (if iI x < 0 then (0 : Int32) else iI x) = iI (if x < 0 then 0 else x) := ilt (b := 0) (x := 0) (y := x) (by unfold Sm; omega) (by unfold Sm; omega)
  generalize (if y < 0 then 0 else y) = Y0 at hy0 ⊢
  generalize (if x < 0 then 0 else x) = X0 at hx0 ex0
  refine ⟨13, upZ (σ := U2) (fun N s r => wp_X3_fill_37 n KX (iI x) (iI v) (iI R) (iI B) N s r) (fun r s => 0 ≤ r ∧ Y0 ≤ r ∧ r < 2147483648 ∧ (r = Y0 ∨ r ≤ B + 1) ∧ (∀ k, k ≠ 1 → s k = ua k) ∧ ∀ i, i < n → s 1 i = iI (fiS x y x2 y2 v cov r 0 (pt w i))) B (fun N r s hr hs hn => ?_) (fun N r s hr hs => ?_) 12 Y0 ua (by omega) ⟨by omega, by omega, by omega, Or.inl rfl, fun _ _ => rfl, fun i hi => ?_⟩⟩
  · obtain ⟨r0, r1, r2, r3, s1, s2⟩ := hs
    rw [wp_X3_fill_37]
    refine w_lt (by unfold Sm; omega) (by unfold Sm; omega) (fun q => by omega) (fun _ v4 e4 => ?_)
    rw [ex0] at e4
    subst e4
    refine ⟨13, upZ (σ := U2) (fun N' s c => wp_X3_fill_51 n (fun ua8 => ∀ v9, v9 = iI r + 1 → wp_X3_fill_37 n KX (iI x) (iI v) (iI R) (iI B) N ua8 v9) (iI x) (iI v) (iI R) (iI B) (iI r) N' s c) (fun c s => 0 ≤ c ∧ X0 ≤ c ∧ c < 2147483648 ∧ (c = X0 ∨ c ≤ R + 1) ∧ (∀ k, k ≠ 1 → s k = ua k) ∧ ∀ i, i < n → s 1 i = iI (fiS x y x2 y2 v cov r c (pt w i))) R (fun N2 c s' hc hs' hn2 => ?_) (fun N2 c s' hc hs' => ?_) 12 X0 s (by omega) ⟨by omega, by omega, by omega, Or.inl rfl, s1, fun i hi => ?_⟩⟩
    · obtain ⟨t0, t1, t2, t3, z1, z2⟩ := hs'
      rw [wp_X3_fill_51]
      refine w_lt (by unfold Sm; omega) (by unfold Sm; omega) (fun q => by omega) (fun _ => ?_)
      have hb : r.toNat < h := by omega
      have ha : c.toNat < w := by omega
      have hi := yx_lt I5 ha hb
      have hp := pt_yx (y := r.toNat) ha
      rw [iI_nn r0, iI_nn t0, z1 0 (by decide), e_at e0, ncl (by omega)]
      refine ⟨vin hi (by omega), fun u5 e5 v6 e6 => ?_⟩
      rw [← iI_nn r0, ← iI_nn t0] at *
      have e7 : iI c + 1 = iI (c + 1) := by rw [← iadd]; rfl
      rw [e7] at e6
      subst e6
      refine hn2 u5 ⟨by omega, by omega, by omega, Or.inr (by omega), fun k hk => by rw [e5, st_row hk]; exact z1 k hk, fun j hj => ?_⟩
      by_cases q : j = r.toNat * w + c.toNat
      · rw [q, e5, st_at, hp]
        unfold fiS
        rw [if_pos (by omega)]
      · have hne : pt w j ≠ 12 * r.toNat + c.toNat := fun z => q (pt_inj I1 I2 I5 hj hi (by rw [hp]; exact z))
        rw [e5, st_el q, z2 j hj]
        unfold fiS
        exact congrArg iI (ite_iff (by omega))
    · obtain ⟨t0, t1, t2, t3, z1, z2⟩ := hs'
      rw [wp_X3_fill_51]
      refine w_lt (by unfold Sm; omega) (by unfold Sm; omega) (fun _ v9 e9 => ?_) (fun q => by omega)
      have e7 : iI r + 1 = iI (r + 1) := by rw [← iadd]; rfl
      rw [e7] at e9
      subst e9
      refine hn s' ⟨by omega, by omega, by omega, Or.inr (by omega), z1, fun j hj => ?_⟩
      have hV := (pt_V I1 I2 I4 I5 hj).2
      unfold Vp at hV
      rw [z2 j hj]
      unfold fiS
      exact congrArg iI (ite_iff (by omega))
    · rw [s2 i hi]
      unfold fiS
      exact congrArg iI (ite_iff (by omega))
  · obtain ⟨r0, r1, r2, r3, s1, s2⟩ := hs
    rw [wp_X3_fill_37]
    refine w_lt (by unfold Sm; omega) (by unfold Sm; omega) (fun _ => hE s s1 (fun i hi => ?_)) (fun q => by omega)
    have hV := (pt_V I1 I2 I4 I5 hi).2
    unfold Vp at hV
    rw [s2 i hi]
    unfold fiS fmS
    exact congrArg iI (ite_iff (by omega))
  · rw [c1 i hi]
    unfold fiS
    rw [if_neg (by omega)]
theorem RMs.cov {u : U2} {w h d rg bd : Nat} {mk : Bool} {mB cov : Nat → Int} {t : F3} {sy : Nat → Bool} {md : Int32} {p : Nat} {v : Int} (q : RMs u w h d rg bd mk mB cov t sy md) : RMs (st u 9 p (iI v)) w h d rg bd mk mB (fun p' => if p' = p then v else cov p') t sy md := by
  obtain ⟨hm0, hm1, hm8, hm9, hm10, hm11⟩ := q
  refine ⟨?_, ?_, ?_, fun p' hp' => ?_, ?_, ?_⟩
  · rw [st_row (by decide)]; exact hm0
  · rw [st_row (by decide)]; exact hm1
  · rw [st_row (by decide)]; exact hm8
  · show _ = iI (if p' = p then v else cov p')
    by_cases e : p' = p
    · rw [if_pos e, e, st_at]
    · rw [if_neg e, st_el e]; exact hm9 p' hp'
  · rw [st_row (by decide)]; exact hm10
  · rw [st_row (by decide)]; exact hm11
theorem mm_fill {um : U2} {KX : U2 → Prop} {w h d rg bd : Nat} {cel : Nat → Nat → Cl} {kn : Nat → Bool} {mk : Bool} {mB cov : Nat → Int} {t : F3} {sy : Nat → Bool} {md : Int32} {x y x2 y2 v : Int} (I2 : w ≤ 12) (I4 : h ≤ 12) (hx : Sm x) (hy : Sm y) (hx2 : Sm x2) (hy2 : Sm y2) (hM : RMs um w h d rg bd mk mB cov t sy md) (hG : RG um rg cel kn) (h00 : um 0 0 = 0)
    (hE : ∀ um', RMs um' w h d rg bd mk mB (fmS x y x2 y2 v cov h w 0) t sy md → RG um' rg cel kn → um' 0 0 = 0 → KX um') :
    ∃ N, wp_X4_fill_20 KX (iI x) (iI y) (iI x2) (iI y2) (iI v) N um 0 := by
  have f0 : fmS x y x2 y2 v cov h 0 0 = cov := by
    funext p
    unfold fmS
    rw [if_neg (by omega)]
  refine upN0 (σ := U2) (fun N s i => wp_X4_fill_20 KX (iI x) (iI y) (iI x2) (iI y2) (iI v) N s i) (fun i s => RMs s w h d rg bd mk mB (fmS x y x2 y2 v cov h i 0) t sy md ∧ RG s rg cel kn ∧ s 0 0 = 0) w um ⟨by rw [f0]; exact hM, hG, h00⟩ (fun N i u hi hs hn => ?_) (fun N u hs => ?_)
  · obtain ⟨s1, s2, z3⟩ := hs
    rw [wp_X4_fill_20]
    refine bf (by rw [s1.1.1]; exact nI_ge hi (by omega)) (nt z3 ?_)
    refine upN0 (σ := U2) (fun N' s j => wp_X4_fill_39 (fun um11 => ∀ v12, v12 = nI i + 1 → wp_X4_fill_20 KX (iI x) (iI y) (iI x2) (iI y2) (iI v) N um11 v12) (iI x) (iI y) (iI x2) (iI y2) (iI v) (nI i) N' s j) (fun j s => RMs s w h d rg bd mk mB (fmS x y x2 y2 v cov h i j) t sy md ∧ RG s rg cel kn ∧ s 0 0 = 0) h u ⟨s1, s2, z3⟩ (fun N2 j u1 hj hs hn2 => ?_) (fun N2 u1 hs => ?_)
    · obtain ⟨t1, t2, t3⟩ := hs
      rw [wp_X4_fill_39]
      have fin : ∀ u5 : U2, RMs u5 w h d rg bd mk mB (fmS x y x2 y2 v cov h i (j + 1)) t sy md → RG u5 rg cel kn → u5 0 0 = 0 → wp_X4_fill_88 (wp_X4_fill_39 (fun um11 => ∀ v12, v12 = nI i + 1 → wp_X4_fill_20 KX (iI x) (iI y) (iI x2) (iI y2) (iI v) N um11 v12) (iI x) (iI y) (iI x2) (iI y2) (iI v) (nI i) N2) u5 (iI x) (iI y) (iI x2) (iI y2) (iI v) (nI i) (nI j) := by
        intro u5 q1 q2 q3
        unfold wp_X4_fill_88
        intro v3 e3
        subst e3
        rw [nI_1 j]
        exact hn2 u5 ⟨q1, q2, q3⟩
      have out : ¬ (x ≤ (i : Int) ∧ (i : Int) ≤ x2 ∧ y ≤ (j : Int) ∧ (j : Int) ≤ y2) → wp_X4_fill_88 (wp_X4_fill_39 (fun um11 => ∀ v12, v12 = nI i + 1 → wp_X4_fill_20 KX (iI x) (iI y) (iI x2) (iI y2) (iI v) N um11 v12) (iI x) (iI y) (iI x2) (iI y2) (iI v) (nI i) N2) u1 (iI x) (iI y) (iI x2) (iI y2) (iI v) (nI i) (nI j) := by
        intro q
        refine fin u1 ?_ t2 t3
        have e : fmS x y x2 y2 v cov h i (j + 1) = fmS x y x2 y2 v cov h i j := by
          funext p
          unfold fmS
          exact ite_iff (by omega)
        rw [e]
        exact t1
      refine bf (by rw [t1.1.2.1]; exact nI_ge hj (by omega)) ?_
      have si : Sm (i : Int) := by unfold Sm; omega
      have sj : Sm (j : Int) := by unfold Sm; omega
      have W : (iI (i : Int) < iI x → wp_X4_fill_88 (wp_X4_fill_39 (fun um11 => ∀ v12, v12 = nI i + 1 → wp_X4_fill_20 KX (iI x) (iI y) (iI x2) (iI y2) (iI v) N um11 v12) (iI x) (iI y) (iI x2) (iI y2) (iI v) (nI i) N2) u1 (iI x) (iI y) (iI x2) (iI y2) (iI v) (nI i) (nI j)) ∧ (¬ iI (i : Int) < iI x → ((iI x2 < iI (i : Int) → wp_X4_fill_88 (wp_X4_fill_39 (fun um11 => ∀ v12, v12 = nI i + 1 → wp_X4_fill_20 KX (iI x) (iI y) (iI x2) (iI y2) (iI v) N um11 v12) (iI x) (iI y) (iI x2) (iI y2) (iI v) (nI i) N2) u1 (iI x) (iI y) (iI x2) (iI y2) (iI v) (nI i) (nI j)) ∧ (¬ iI x2 < iI (i : Int) → ((iI (j : Int) < iI y → wp_X4_fill_88 (wp_X4_fill_39 (fun um11 => ∀ v12, v12 = nI i + 1 → wp_X4_fill_20 KX (iI x) (iI y) (iI x2) (iI y2) (iI v) N um11 v12) (iI x) (iI y) (iI x2) (iI y2) (iI v) (nI i) N2) u1 (iI x) (iI y) (iI x2) (iI y2) (iI v) (nI i) (nI j)) ∧ (¬ iI (j : Int) < iI y → ((iI y2 < iI (j : Int) → wp_X4_fill_88 (wp_X4_fill_39 (fun um11 => ∀ v12, v12 = nI i + 1 → wp_X4_fill_20 KX (iI x) (iI y) (iI x2) (iI y2) (iI v) N um11 v12) (iI x) (iI y) (iI x2) (iI y2) (iI v) (nI i) N2) u1 (iI x) (iI y) (iI x2) (iI y2) (iI v) (nI i) (nI j)) ∧ (¬ iI y2 < iI (j : Int) → wp_X4_pointAt u1 (nI i) (nI j) (fun r4 => (vp_in r4 144 ∧ ∀ um5 : Nat → Nat → Int32, um5 = st u1 9 r4.toNatClampNeg (iI v) → wp_X4_fill_88 (wp_X4_fill_39 (fun um11 => ∀ v12, v12 = nI i + 1 → wp_X4_fill_20 KX (iI x) (iI y) (iI x2) (iI y2) (iI v) N um11 v12) (iI x) (iI y) (iI x2) (iI y2) (iI v) (nI i) N2) um5 (iI x) (iI y) (iI x2) (iI y2) (iI v) (nI i) (nI j))))))))))  := by
        refine w_lt si hx (fun q => out (by omega)) (fun q1 => w_lt hx2 si (fun q => out (by omega)) (fun q2 => w_lt sj hy (fun q => out (by omega)) (fun q3 => w_lt hy2 sj (fun q => out (by omega)) (fun q4 => ?_))))
        unfold wp_X4_pointAt
        rw [e_pm]
        refine ⟨vin (by omega) (by omega), fun u5 e5 => ?_⟩
        rw [ncl (by omega)] at e5
        refine fin u5 ?_ (by rw [e5]; exact t2.row (by decide) (by decide) (by decide) (by decide) (by decide) (by decide)) (by rw [e5, st_row (by decide)]; exact t3)
        have e : fmS x y x2 y2 v cov h i (j + 1) = fun p' => if p' = 12 * j + i then v else fmS x y x2 y2 v cov h i j p' := by
          funext p
          by_cases q : p = 12 * j + i
          · rw [if_pos q]
            unfold fmS
            rw [if_pos (by omega)]
          · rw [if_neg q]
            unfold fmS
            exact ite_iff (by omega)
        rw [e, e5]
        exact t1.cov
      rw [← iI_n, ← iI_n] at W
      exact W
    · obtain ⟨t1, t2, t3⟩ := hs
      rw [wp_X4_fill_39]
      refine bt (by rw [t1.1.2.1]; exact nI_le (by omega) (by omega)) (fun v12 e12 => ?_)
      subst e12
      rw [nI_1 i]
      refine hn u1 ⟨?_, t2, t3⟩
      have e : fmS x y x2 y2 v cov h (i + 1) 0 = fmS x y x2 y2 v cov h i h := by
        funext p
        unfold fmS
        exact ite_iff (by omega)
      rw [e]
      exact t1
  · obtain ⟨s1, s2, z3⟩ := hs
    rw [wp_X4_fill_20]
    exact bt (by rw [s1.1.1]; exact nI_le (by omega) (by omega)) (hE u s1 s2 z3)
theorem case_fill {L : Nat} {xs : Nat → Int32} {w h n : Nat} {NX : NT} {x4 : Int32} {ua : U2} {uL : U3} {uo : Nat → Int64} {um : U2} (hR : RR w h n ua uL um) (i1 : vp_in (x4 + 1) L) (i2 : vp_in (x4 + 2) L) (i3 : vp_in (x4 + 3) L) (i4 : vp_in (x4 + 4) L) (i5 : vp_in (x4 + 5) L) (hN : ∀ ua' uL' uo' um', RR w h n ua' uL' um' → NX ua' uL' uo' um') : wp_case_fill L xs n NX x4 ua uL uo um := by
  obtain ⟨d, rg, bd, cel, kn, mk, mB, cov, t, sy, md, hI, hC, hM, hG⟩ := hR
  have hRt : ∀ v, RR w h n ua uL (st um 0 0 v) := fun v => ⟨d, rg, bd, cel, kn, mk, mB, cov, t, sy, md, hI, hC, hM.thr, hG.thr⟩
  obtain ⟨⟨I1, I2, I3, I4, I5, I6⟩, J2, J3, J4, J5, J6⟩ := hI
  unfold wp_case_fill wp_L_fill wp_X3_fill
  refine ⟨i1, i2, i3, i4, i5, ?_⟩
  obtain ⟨x, hx, ex⟩ := ex_iI (xs (x4 + 1).toNatClampNeg)
  obtain ⟨y, hy, ey⟩ := ex_iI (xs (x4 + 2).toNatClampNeg)
  obtain ⟨x2, hx2, ex2⟩ := ex_iI (xs (x4 + 3).toNatClampNeg)
  obtain ⟨y2, hy2, ey2⟩ := ex_iI (xs (x4 + 4).toNatClampNeg)
  obtain ⟨v, hv, ev⟩ := ex_iI (xs (x4 + 5).toNatClampNeg)
  rw [ex, ey, ex2, ey2, ev]
  obtain ⟨hc0, hc1, hc2, hcL⟩ := hC
  refine q_needByte hv (fun hb v1 e1 v2 e2 v3 e3 => ?_) (fun hb => ⟨rfl, ?_⟩)
  · have ew : nI w - 1 = iI ((w : Int) - 1) := by rw [iI_n, ← isub]; rfl
    have eh : nI h - 1 = iI ((h : Int) - 1) := by rw [iI_n, ← isub]; rfl
    rw [hc0.1, ew, ilt (by unfold Sm; omega) hx2] at e1
    rw [hc0.2.1, eh, ilt (by unfold Sm; omega) hy2] at e2
    have e4 : v3 = iI (if y < 0 then 0 else y) := e3.trans (ilt (b := 0) (x := 0) (y := y) hy (by unfold Sm; omega))
    subst e1 e2 e4
    refine cc_fill I1 I2 I3 I4 I5 I6 hx hy hx2 hy2 hc0.1 hc1 (fun ua' r1 r2 => ?_)
    unfold wp_X4_fill
    refine q_isByte hb.sm (fun _ => bf (by decide) ?_) (fun q => absurd hb q)
    unfold wp_X4_fill_14
    intro u e
    refine mm_fill I2 I4 hx hy hx2 hy2 (by rw [e]; exact hM.thr) (by rw [e]; exact hG.thr) (by rw [e, st_at]) (fun u' z1 z2 z3 => ?_)
    have hcv : ∀ p, Bt (fmS x y x2 y2 v cov h w 0 p) := fun p => by
      unfold fmS
      split
      · exact hb
      · exact J5 p
    refine ⟨z3, hN _ _ _ _ ⟨d, rg, bd, cel, kn, mk, mB, _, t, sy, md, ⟨⟨I1, I2, I3, I4, I5, I6⟩, J2, J3, J4, hcv, J6⟩, ⟨?_, r2, ?_, hcL⟩, z1, z2⟩⟩
    · rw [r1 0 (by decide)]; exact hc0
    · rw [r1 2 (by decide)]; exact hc2
  · unfold wp_X4_fill
    refine q_isByte hv (fun q => absurd q hb) (fun _ => bt rfl ?_)
    unfold wp_X4_fill_14
    intro u e
    refine ⟨1, ?_⟩
    rw [wp_X4_fill_20]
    have h2 : u 0 1 = nI w := by rw [e, st_el (by decide)]; exact hM.1.1
    refine bf (by rw [h2]; exact nI_nle (by omega) (by omega)) (nf (by rw [e, st_at]; decide) ?_)
    rw [e]
    exact ⟨st_at, hN _ _ _ _ (hRt 1)⟩
