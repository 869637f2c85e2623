/-! the law's loop and the beginning -/
theorem law_ok (L : Nat) (xs : Nat → Int32) (hL : L ≤ 3074) (w h n : Nat) : ∀ (N i : Nat) (ua : U2) (uL : U3) (uo : Nat → Int64) (um : U2), L < i + 6 * (N + 1) → i ≤ 4000 → RR w h n ua uL um → wp_law L xs n (N + 1) (nI i) ua uL uo um := by
  intro N
  induction N with
  | zero =>
    intro i ua uL uo um hf hi hR
    rw [wp_law]
    refine ⟨fun _ => trivial, fun q => absurd ?_ q⟩
    show nI L - 6 < nI i
    rw [iI_n, iI_n, show (6 : Int32) = iI 6 from rfl, isub, iI_lt (by omega) (by omega) (by omega) (by omega)]
    omega
  | succ N ih =>
    intro i ua uL uo um hf hi hR
    rw [wp_law]
    refine ⟨fun _ => trivial, fun q => ?_⟩
    have q : ¬ nI L - 6 < nI i := q
    rw [iI_n, iI_n, show (6 : Int32) = iI 6 from rfl, isub, iI_lt (by omega) (by omega) (by omega) (by omega)] at q
    have hi1 : vp_in (nI i + 1) L := by rw [show (1 : Int32) = nI 1 from rfl, nI_add]; exact vin (by omega) (by omega)
    have hi2 : vp_in (nI i + 2) L := by rw [show (2 : Int32) = nI 2 from rfl, nI_add]; exact vin (by omega) (by omega)
    have hi3 : vp_in (nI i + 3) L := by rw [show (3 : Int32) = nI 3 from rfl, nI_add]; exact vin (by omega) (by omega)
    have hi4 : vp_in (nI i + 4) L := by rw [show (4 : Int32) = nI 4 from rfl, nI_add]; exact vin (by omega) (by omega)
    have hi5 : vp_in (nI i + 5) L := by rw [show (5 : Int32) = nI 5 from rfl, nI_add]; exact vin (by omega) (by omega)
    have hN : ∀ ua' uL' uo' um', RR w h n ua' uL' um' → wp_law L xs n (N + 1) (nI i + 6) ua' uL' uo' um' := by
      intro ua' uL' uo' um' hR'
      rw [show (6 : Int32) = nI 6 from rfl, nI_add]
      exact ih (i + 6) ua' uL' uo' um' (by omega) (by omega) hR'
    refine ⟨vin (by omega) (by omega), ⟨fun _ => case_told hR hi1 hN, fun _ => ?_⟩⟩
    refine ⟨fun _ => case_bound hR hi1 hN, fun _ => ?_⟩
    refine ⟨fun _ => case_group hR hi1 hi2 hN, fun _ => ?_⟩
    refine ⟨fun _ => case_end hR hi1 hi2 hN, fun _ => ?_⟩
    refine ⟨fun _ => case_mask hR hi1 hi2 hN, fun _ => ?_⟩
    refine ⟨fun _ => case_unmask hR hN, fun _ => ?_⟩
    refine ⟨fun _ => case_colour hR hi1 hi2 hN, fun _ => ?_⟩
    refine ⟨fun _ => case_stays hR hi1 hi2 hN, fun _ => ?_⟩
    refine ⟨fun _ => case_cover hR hi1 hi2 hi3 hN, fun _ => ?_⟩
    refine ⟨fun _ => case_fill hR hi1 hi2 hi3 hi4 hi5 hN, fun _ => ?_⟩
    refine ⟨fun _ => case_mark hR hi1 hi2 hi3 hN, fun _ => ?_⟩
    refine ⟨fun _ => case_point hR hi1 hi2 hi3 hN, fun _ => ?_⟩
    refine ⟨fun _ => case_alpha hR hi1 hi2 hi3 hN, fun _ => ?_⟩
    refine ⟨fun _ => case_paper hR hi1 hi2 hi3 hN, fun _ => ?_⟩
    refine ⟨fun _ => case_separable hR hi1 hi2 hi3 hN, fun _ => ?_⟩
    refine ⟨fun _ => case_blend hR hi1 hi2 hi3 hN, fun _ => hN ua uL uo um hR⟩
def cpS (z : Int) : Int := if 1 < (if z < 12 then z else 12) then (if z < 12 then z else 12) else 1
theorem cpS_b (z : Int) : 1 ≤ cpS z ∧ cpS z ≤ 12 := by
  unfold cpS
  by_cases h : z < 12
  · rw [if_pos h]; split <;> omega
  · rw [if_neg h]; split <;> omega
theorem e_cp {z : Int} (hz : Sm z) : (if 1 < (if iI z < 12 then iI z else 12) then (if iI z < 12 then iI z else 12) else 1) = iI (cpS z) := by
  have e1 := ilt (a := z) (b := 12) (x := z) (y := 12) hz (by unfold Sm; omega)
  have e2 := ilt (a := 1) (b := if z < 12 then z else 12) (x := if z < 12 then z else 12) (y := 1) (by unfold Sm; omega) (by split; exact hz; unfold Sm; omega)
  rw [show (12 : Int32) = iI 12 from rfl, e1]
  show (if iI 1 < _ then _ else iI 1) = _
  rw [e2]
  rfl
theorem q_cp {z : Int} {P : Int32 → Prop} (hz : Sm z) (h : P (iI (cpS z))) : (1 ≤ iI z → ((iI z ≤ 12 → P (iI z)) ∧ (¬ iI z ≤ 12 → P 12))) ∧ (¬ 1 ≤ iI z → P 1) := by
  unfold cpS at h
  refine w_le (a := 1) (by unfold Sm; omega) hz (fun q => w_le (b := 12) hz (by unfold Sm; omega) (fun q2 => ?_) (fun q2 => ?_)) (fun q => ?_)
  · by_cases h1 : z < 12
    · rw [if_pos h1] at h
      by_cases h2 : 1 < z
      · rw [if_pos h2] at h; exact h
      · rw [if_neg h2] at h; rw [show z = 1 by omega]; exact h
    · rw [if_neg h1, if_pos (by omega)] at h; rw [show z = 12 by omega]; exact h
  · rw [if_neg (show ¬ z < 12 by omega), if_pos (by omega)] at h; exact h
  · rw [if_pos (show z < 12 by omega), if_neg (by omega)] at h; exact h
theorem i_class {n w h : Nat} {P : U2 → U3 → Prop} (hn : n ≤ 144) (hP : ∀ ua, RC0 (ua 0) w h n 1 1 6 false (fun _ => 0) (fun _ => false) 0 → (∀ i, i < n → ua 1 i = iI 255) → (∀ i, ua 2 i = 0) → P ua (fun _ => ly0 (nI n))) : wp_X3_init n (br0 (nI w) (nI h) (nI n)) (fun _ => ly0 (nI n)) P := by
  unfold wp_X3_init
  refine upN0 (σ := U2) (fun N s i => wp_X3_init_107 n (fun (ua6 : Nat → Nat → Int32) (uL7 : Nat → Nat → Nat → Int32) => ∀ ua8 : Nat → Nat → Int32, ua8 = st ua6 0 6 6 → ∀ ua9 : Nat → Nat → Int32, ua9 = st ua8 0 7 1 → ∀ ua10 : Nat → Nat → Int32, ua10 = st ua9 0 8 1 → P ua10 uL7) N s (fun _ => ly0 (nI n)) i) (fun i s => (∀ r, r ≠ 1 → s r = br0 (nI w) (nI h) (nI n) r) ∧ ∀ j, j < i → s 1 j = iI 255) n _ ⟨fun _ _ => rfl, fun j hj => by omega⟩ (fun N i s hi hs hnx => ?_) (fun N s hs => ?_)
  · obtain ⟨s1, s2⟩ := hs
    rw [wp_X3_init_107]
    refine bf (by rw [s1 0 (by decide)]; exact nI_ge hi (by omega)) ⟨vin hi (by omega), fun u3 e3 v4 e4 => ?_⟩
    rw [ncl (by omega)] at e3
    subst e4
    rw [nI_1 i]
    refine hnx u3 ⟨fun r hr => by rw [e3, st_row hr]; exact s1 r hr, fun j hj => ?_⟩
    by_cases q : j = i
    · rw [q, e3, st_at]; rfl
    · rw [e3, st_el q]; exact s2 j (by omega)
  · obtain ⟨s1, s2⟩ := hs
    rw [wp_X3_init_107]
    refine bt (by rw [s1 0 (by decide)]; exact nI_le (by omega) (by omega)) (fun u8 e8 u9 e9 u10 e10 => ?_)
    have hr : ∀ r, r ≠ 0 → u10 r = s r := fun r hr => by rw [e10, st_row hr, e9, st_row hr, e8, st_row hr]
    have h0 : ∀ j, j ≠ 6 → j ≠ 7 → j ≠ 8 → u10 0 j = br0 (nI w) (nI h) (nI n) 0 j := fun j q6 q7 q8 => by rw [e10, st_el q8, e9, st_el q7, e8, st_el q6, s1 0 (by decide)]
    refine hP u10 ⟨?_, ?_, ?_, ?_, ?_, ?_, ?_, ?_, ?_, ?_⟩ (fun i hi => ?_) (fun i => ?_)
    · rw [h0 0 (by decide) (by decide) (by decide)]; rfl
    · rw [h0 1 (by decide) (by decide) (by decide)]; rfl
    · rw [h0 2 (by decide) (by decide) (by decide)]; rfl
    · rw [h0 3 (by decide) (by decide) (by decide)]; exact ⟨fun _ => rfl, fun _ => rfl⟩
    · rw [h0 4 (by decide) (by decide) (by decide)]; rfl
    · rw [h0 5 (by decide) (by decide) (by decide)]
      exact ⟨0, by omega, rfl, fun k _ => by rw [Nat.zero_testBit]⟩
    · rw [e10, st_el (by decide), e9, st_el (by decide), e8, st_at]; rfl
    · rw [e10, st_el (by decide), e9, st_at]; rfl
    · rw [e10, st_at]; rfl
    · rw [h0 9 (by decide) (by decide) (by decide)]; rfl
    · rw [hr 1 (by decide)]; exact s2 i hi
    · rw [hr 2 (by decide), s1 2 (by decide)]; rfl
theorem i_model {x y : Int} {P : U2 → Prop} (hx : Sm x) (hy : Sm y) (hP : ∀ um, (∀ r, r ≠ 0 → r ≠ 9 → ∀ i, um r i = 0) → (∀ i, i < 144 → um 9 i = iI 255) → um 0 1 = iI (cpS x) → um 0 2 = iI (cpS y) → (∀ j, j ≠ 1 → j ≠ 2 → um 0 j = md0 0 j) → P um) : wp_X4_init md0 (iI x) (iI y) P := by
  unfold wp_X4_init
  refine q_cp (P := fun z => wp_X4_init_163 P md0 (iI y) z) hx ?_
  unfold wp_X4_init_163
  intro u16 e16
  refine q_cp (P := fun z => wp_X4_init_188 P u16 z) hy ?_
  unfold wp_X4_init_188
  intro u17 e17
  refine upN0 (σ := U2) (fun N s i => wp_X4_init_193 (fun um21 => P um21) N s i) (fun i s => (∀ r, r ≠ 9 → s r = u17 r) ∧ ∀ j, j < i → s 9 j = iI 255) 144 _ ⟨fun _ _ => rfl, fun j hj => by omega⟩ (fun N i s hi hs hnx => ?_) (fun N s hs => ?_)
  · obtain ⟨s1, s2⟩ := hs
    rw [wp_X4_init_193]
    refine bf (nI_ge (b := 144) hi (by omega)) ⟨vin hi (by omega), fun u3 e3 v4 e4 => ?_⟩
    rw [ncl (by omega)] at e3
    subst e4
    rw [nI_1 i]
    refine hnx u3 ⟨fun r hr => by rw [e3, st_row hr]; exact s1 r hr, fun j hj => ?_⟩
    by_cases q : j = i
    · rw [q, e3, st_at]; rfl
    · rw [e3, st_el q]; exact s2 j (by omega)
  · obtain ⟨s1, s2⟩ := hs
    rw [wp_X4_init_193]
    refine bt (by decide) (hP s (fun r h0 h9 i => ?_) s2 ?_ ?_ (fun j h1 h2 => ?_))
    · rw [s1 r h9, e17, st_row h0, e16, st_row h0]
      unfold md0
      rw [if_neg h0]
    · rw [s1 0 (by decide), e17, st_el (by decide), e16, st_at]
    · rw [s1 0 (by decide), e17, st_at]
    · rw [s1 0 (by decide), e17, st_el h2, e16, st_el h1]
theorem pure_all (L : Nat) (xs : Nat → Int32) (hL : L ≤ 3074) : whole_pure L xs := by
  unfold whole_pure
  obtain ⟨x, hx, ex⟩ := ex_iI (cv L xs 0)
  obtain ⟨y, hy, ey⟩ := ex_iI (cv L xs 1)
  rw [ex, ey]
  have bx := cpS_b x
  have by' := cpS_b y
  have wx : iI (cpS x) = nI (cpS x).toNat := iI_nn (by omega)
  have wy : iI (cpS y) = nI (cpS y).toNat := iI_nn (by omega)
  have hn : (cpS x).toNat * (cpS y).toNat ≤ 144 := Nat.mul_le_mul (show (cpS x).toNat ≤ 12 by omega) (show (cpS y).toNat ≤ 12 by omega)
  refine ⟨(cpS x).toNat, (cpS y).toNat, (cpS x).toNat * (cpS y).toNat, ?_, ?_, rfl, hn, ?_⟩
  · rw [e_cp hx, wx]
  · rw [e_cp hy, wy]
  · refine i_class hn (fun ua c0 c1 c2 => i_model hx hy (fun um m0 m9 m1 m2 mr => ⟨600, by omega, ?_⟩))
    refine law_ok L xs hL (cpS x).toNat (cpS y).toNat _ 599 2 ua _ _ um (by omega) (by omega) ?_
    have z0 : Bt 0 := by unfold Bt; omega
    have z255 : Bt 255 := by unfold Bt; omega
    refine ⟨1, 1, 6, fun _ _ _ => 0, fun _ => false, false, fun _ => 0, fun _ => 255, fun _ => 0, fun _ => false, 0, ⟨⟨by omega, by omega, by omega, by omega, rfl, hn⟩, ⟨by omega, by omega, by omega, by omega, by omega, by omega⟩, fun _ _ _ _ => z0, fun _ => z0, fun _ => z255, fun _ _ => z0⟩, ⟨c0, c1, fun i _ => by rw [c2 i]; rfl, ⟨fun g _ => rfl, fun g _ => ⟨⟨fun _ => rfl, fun _ => rfl⟩, fun i _ => ⟨rfl, rfl, rfl, rfl, rfl⟩⟩⟩⟩, ⟨⟨?_, ?_, ?_, ?_, ?_, ?_, ?_⟩, fun e he => ?_, fun p _ => ?_, m9, fun k _ => ?_, fun k _ => ?_⟩, fun g _ => ⟨?_, fun p _ => ⟨fun k _ => ?_, ?_, fun k _ => ?_, ?_, ?_⟩⟩⟩
    · rw [m1, wx]
    · rw [m2, wy]
    · rw [mr 3 (by decide) (by decide)]; rfl
    · rw [mr 4 (by decide) (by decide)]; rfl
    · rw [mr 5 (by decide) (by decide)]; rfl
    · rw [mr 6 (by decide) (by decide)]; exact ⟨fun _ => rfl, fun _ => rfl⟩
    · rw [mr 7 (by decide) (by decide)]; rfl
    · rw [m0 1 (by decide) (by decide), if_pos he, show e - 1 = 0 by omega]; rfl
    · rw [m0 8 (by decide) (by decide)]; rfl
    · rw [m0 10 (by decide) (by decide)]; rfl
    · rw [m0 11 (by decide) (by decide)]; exact ⟨fun _ => rfl, fun _ => rfl⟩
    · rw [m0 2 (by decide) (by decide)]; exact ⟨fun _ => rfl, fun _ => rfl⟩
    · rw [m0 3 (by decide) (by decide)]; rfl
    · rw [m0 4 (by decide) (by decide)]; rfl
    · rw [m0 5 (by decide) (by decide)]; rfl
    · rw [m0 6 (by decide) (by decide)]; rfl
    · rw [m0 7 (by decide) (by decide)]; rfl
