/-! the result of a group at one point, and a new group's point -/
def rsV (c b ba o : Int) : Int := if 0 < o then clS (c + ((c - b) * (ba * (255 - o))).tdiv (255 * o)) else 0
def rsF (c : Cl) : F3 := fun k => rsV (c (4 + k)) (c k) (c 3) (c 7)
def rlS (c : Cl) : Int := lmF (fun k => mu (rsF c k) (c 7))
def bgC (iso : Bool) (c : Cl) : Cl := fun i => if i < 3 then (if iso = true then 0 else c (4 + i)) else if i = 3 then (if iso = true then 0 else waS c) else if i < 7 then (if iso = true then 0 else c i) else 0
theorem rsV_b (c b ba o : Int) : Bt (rsV c b ba o) := by
  unfold rsV
  split
  · exact clS_b _
  · unfold Bt; omega
theorem rsF_b (c : Cl) : B3 (rsF c) := fun k _ => rsV_b _ _ _ _
theorem rlS_b {c : Cl} (hc : CB c) : Bt (rlS c) := lmF_b (fun k hk => mu_b (rsF_b c k hk) (hc 7 (by omega)))
theorem bgC_b {iso : Bool} {c : Cl} (hc : CB c) : CB (bgC iso c) := fun i hi => by
  have z : Bt 0 := by unfold Bt; omega
  unfold bgC
  by_cases h : i < 3
  · rw [if_pos h]; split; exact z; exact hc (4 + i) (by omega)
  rw [if_neg h]
  by_cases h : i = 3
  · rw [if_pos h]; split; exact z; exact hc.wa
  rw [if_neg h]
  by_cases h : i < 7
  · rw [if_pos h]; split; exact z; exact hc i (by omega)
  rw [if_neg h]
  exact z
theorem rs_q {c b ba o : Int} (hc : Bt c) (hb : Bt b) (hba : Bt ba) (ho : Bt o) (h0 : 0 < o) : -16581375 ≤ (c - b) * (ba * (255 - o)) ∧ (c - b) * (ba * (255 - o)) ≤ 16581375 ∧ -16600000 ≤ c + ((c - b) * (ba * (255 - o))).tdiv (255 * o) ∧ c + ((c - b) * (ba * (255 - o))).tdiv (255 * o) ≤ 16600000 := by
  unfold Bt at *
  have h1 := mb (a := ba) (b := 255 - o) (x := 255) (y := 255) hba.1 hba.2 (by omega) (by omega)
  have h2 := mulB (a := c - b) (b := ba * (255 - o)) (K := 255) (M := 65025) (by omega) (by omega) h1.1 (by omega) (by omega)
  have h3 := td_b (a := (c - b) * (ba * (255 - o))) (b := 255 * o)
  omega
theorem q_resBand {n i k : Nat} {ub : Nat → Nat → Int32} {c : Cl} {P : Int32 → Prop} (hi : i < n) (hn : n ≤ 144) (hk : k < 3) (hcc : CC ub i c) (hc : CB c) (h : P (iI (rsF c k))) : wp_X0_resultBand n ub (nI i) (nI k) P := by
  obtain ⟨c1, c2, c3, c4, c5⟩ := hcc
  have hi2 := vin (N := n) hi (by omega)
  unfold wp_X0_resultBand
  rw [ncl (by omega), c1, c2, c3, c4]
  refine ⟨hi2, fun v1 e1 => ?_⟩
  subst e1
  have h7 := hc 7 (by omega)
  refine w_lt (a := 0) (by unfold Sm; omega) h7.sm (fun q => ⟨hi2, q_bandF hc.cu hk ⟨hi2, q_bandF hc.bc hk (fun v4 e4 => ⟨hi2, ?_⟩)⟩⟩) (fun q => ?_)
  · rw [isub] at e4
    subst e4
    rw [e_255b, e_255m, imul, imul]
    have hr := rs_q (hc.cu k hk) (hc.bc k hk) (hc 3 (by omega)) h7 q
    unfold Bt at h7
    refine ⟨w_nz (by unfold Sm; omega) (by omega), ?_⟩
    rw [iI_td (by omega) (by omega) (by omega) (by omega), iadd]
    refine q_X2_within (by unfold Sm; omega) ?_
    have e : rsF c k = clS (cuF c k + ((cuF c k - bcF c k) * (c 3 * (255 - c 7))).tdiv (255 * c 7)) := by unfold rsF rsV cuF bcF; rw [if_pos q]
    rw [e] at h
    exact h
  · have e : rsF c k = 0 := by unfold rsF rsV; rw [if_neg (by omega)]
    rw [e] at h
    exact h
theorem q_X0_result {n i : Nat} {ub : Nat → Nat → Int32} {c : Cl} {P : Int32 → Prop} (hi : i < n) (hn : n ≤ 144) (hcc : CC ub i c) (hc : CB c) (h : P (iI (pkF (rsF c)))) : wp_X0_result n ub (nI i) P := by
  unfold wp_X0_result
  exact q_resBand (k := 0) hi hn (by omega) hcc hc (q_resBand (k := 1) hi hn (by omega) hcc hc (q_resBand (k := 2) hi hn (by omega) hcc hc (q_packF (rsF_b c) h)))
theorem q_X0_resultLum {n i : Nat} {ub : Nat → Nat → Int32} {c : Cl} {P : Int32 → Prop} (hi : i < n) (hn : n ≤ 144) (hcc : CC ub i c) (hc : CB c) (h : P (iI (rlS c))) : wp_X0_resultLum n ub (nI i) P := by
  have h7 := hc 7 (by omega)
  have hr := rsF_b c
  unfold wp_X0_resultLum
  refine q_X0_result hi hn hcc hc ⟨vin hi (by omega), fun v2 e2 => ?_⟩
  rw [ncl (by omega), hcc.2.2.2.1] at e2
  subst e2
  refine q_bF0 hr (q_X2_mul (hr 0 (by omega)) h7 (q_bF1 hr (q_X2_mul (hr 1 (by omega)) h7 (q_bF2 hr (q_X2_mul (hr 2 (by omega)) h7 ?_)))))
  exact q_X2_lum (mu_b (hr 0 (by omega)) h7).md (mu_b (hr 1 (by omega)) h7).md (mu_b (hr 2 (by omega)) h7).md h
theorem q_X4_result {um : Nat → Nat → Int32} {g p j : Nat} {c : Cl} {P : (Nat → Nat → Int32) → Prop} (hj : j = 144 * g + p) (hj2 : j < 1152) (hcm : CM um j c) (hc : CB c) (h : ∀ um', (∀ r, r ≠ 12 → um' r = um r) → RF (um' 12) (rsF c) → P um') : wp_X4_result um (nI g) (nI p) P := by
  obtain ⟨c1, c2, c3, c4, c5⟩ := hcm
  have hji := vin (N := 1152) hj2 (by omega)
  have h7 := hc 7 (by omega)
  have h7' := h7
  unfold Bt at h7'
  unfold wp_X4_result
  intro v1 e1
  rw [e_cell, ← hj] at e1
  subst e1
  rw [ncl (by omega), c2, c4]
  refine ⟨hji, fun v2 e2 => ⟨hji, fun v3 e3 => ⟨4, ?_⟩⟩⟩
  subst e2 e3
  refine three 12 0 (fun k => iI (rsF c k)) (fun N k um' hk hR hel hn => ?_) ?_
  · rw [wp_X4_result_27]
    rw [Nat.zero_add] at hn
    rw [e_c3, ncl (show 3 * j + k < 2147483648 by omega), hR 5 (by decide), hR 3 (by decide), c3 k hk, c1 k hk]
    have h3i := vin (k := 3 * j + k) (N := 3456) (by omega) (by omega)
    have fin : ∀ z : Int, Sm z → clS z = rsF c k → wp_X4_result_92 (wp_X4_result_27 (fun um11 => P um11) (nI j) (iI (c 7)) (iI (c 3)) N) um' (nI j) (iI (c 7)) (iI (c 3)) (nI k) (iI z) := by
      intro z hz ez
      unfold wp_X4_result_92
      refine q_clamp (P := fun y => wp_X4_result_125 (wp_X4_result_27 (fun um11 => P um11) (nI j) (iI (c 7)) (iI (c 3)) N) um' (nI j) (iI (c 7)) (iI (c 3)) (nI k) y (nI k)) hz ?_
      unfold wp_X4_result_125
      refine ⟨i3i hk, fun u eu v4 e4 => ?_⟩
      subst eu e4
      rw [i3c hk, nI_1, ez]
      exact hn
    refine bf (i3n hk) ⟨h3i, fun v4 e4 => ?_⟩
    subst e4
    refine w_le (b := 0) h7.sm (by unfold Sm; omega) (fun q => fin 0 (by unfold Sm; omega) ?_) (fun q => ⟨h3i, ?_⟩)
    · have e : rsF c k = 0 := by unfold rsF rsV; rw [if_neg (by omega)]
      rw [e]
      decide
    · have hr := rs_q (hc.cu k hk) (hc.bc k hk) (hc 3 (by omega)) h7 q
      rw [e_255b, isub, imul (c 3) (c 7), show (255 : Int32) = iI 255 from rfl, imul (c 3) 255, isub, show c 3 * 255 - c 3 * c 7 = c 3 * (255 - c 7) by rw [Int.mul_sub], imul]
      refine ⟨w_nz (by unfold Sm; omega) (by omega), ?_⟩
      have hr1 : -16581375 ≤ (c (4 + k) - c k) * (c 3 * (255 - c 7)) := hr.1
      have hr2 : (c (4 + k) - c k) * (c 3 * (255 - c 7)) ≤ 16581375 := hr.2.1
      rw [iI_td (by omega) (by omega) (by omega) (by omega), iadd]
      refine fin _ ?_ ?_
      · have h3 : -16600000 ≤ c (4 + k) + ((c (4 + k) - c k) * (c 3 * (255 - c 7))).tdiv (255 * c 7) := hr.2.2.1
        have h4 : c (4 + k) + ((c (4 + k) - c k) * (c 3 * (255 - c 7))).tdiv (255 * c 7) ≤ 16600000 := hr.2.2.2
        unfold Sm; omega
      · unfold rsF rsV
        rw [if_pos q]
  · rw [wp_X4_result_27]
    exact bt (by decide) (h _ (fun r hr => s3_row hr) (RF_s3 (fun k _ => rfl)))
/-! what the arguments are asked for -/
theorem ex_iI (x : Int32) : ∃ z : Int, Sm z ∧ x = iI z := ⟨x.toInt, ⟨x.le_toInt, x.toInt_lt⟩, iI_of x⟩
theorem q_needByte {z : Int} {P : Prop} {PX : String → Prop} (hz : Sm z) (h1 : Bt z → P) (h2 : ¬ Bt z → PX "java/lang/IllegalArgumentException") : wp_X3_needByte (iI z) P PX := by
  unfold Bt at *
  unfold wp_X3_needByte
  exact w_lt (b := 0) hz (by unfold Sm; omega) (fun q => h2 (by omega)) (fun q => w_le (b := 255) hz (by unfold Sm; omega) (fun q2 => h1 ⟨q, q2⟩) (fun q2 => h2 (by omega)))
theorem q_isByte {z : Int} {P : Int32 → Prop} (hz : Sm z) (h1 : Bt z → P 1) (h2 : ¬ Bt z → P 0) : wp_X4_isByte (iI z) P := by
  unfold Bt at *
  unfold wp_X4_isByte
  exact w_lt (b := 0) hz (by unfold Sm; omega) (fun q => h2 (by omega)) (fun q => w_lt (a := 255) (by unfold Sm; omega) hz (fun q2 => h2 (by omega)) (fun q2 => h1 ⟨q, q2⟩))
def Bd (z : Int) : Prop := 0 ≤ z ∧ z < 3
theorem Bd.n {z : Int} (h : Bd z) : ∃ k : Nat, k < 3 ∧ iI z = nI k := ⟨z.toNat, by unfold Bd at h; omega, iI_nn h.1⟩
theorem q_needBand {z : Int} {P : Prop} {PX : String → Prop} (hz : Sm z) (h1 : Bd z → P) (h2 : ¬ Bd z → PX "java/lang/ArrayIndexOutOfBoundsException") : wp_X3_needBand (iI z) P PX := by
  unfold Bd at *
  unfold wp_X3_needBand
  exact w_lt (b := 0) hz (by unfold Sm; omega) (fun q => h2 (by omega)) (fun q => w_lt (b := 3) hz (by unfold Sm; omega) (fun q2 => h1 ⟨q, q2⟩) (fun q2 => h2 (by omega)))
theorem q_isBand {z : Int} {P : Int32 → Prop} (hz : Sm z) (h1 : Bd z → P 1) (h2 : ¬ Bd z → P 0) : wp_X4_isBand (iI z) P := by
  unfold Bd at *
  unfold wp_X4_isBand
  exact w_lt (b := 0) hz (by unfold Sm; omega) (fun q => h2 (by omega)) (fun q => w_le (a := 3) (by unfold Sm; omega) hz (fun q2 => h2 (by omega)) (fun q2 => h1 ⟨q, q2⟩))
def Pn (w h : Nat) (x y : Int) : Prop := 0 ≤ x ∧ x < w ∧ 0 ≤ y ∧ y < h
theorem Pn.n {w h : Nat} {x y : Int} (q : Pn w h x y) : ∃ a b : Nat, a < w ∧ b < h ∧ iI x = nI a ∧ iI y = nI b := ⟨x.toNat, y.toNat, by unfold Pn at q; omega, by unfold Pn at q; omega, iI_nn q.1, iI_nn q.2.2.1⟩
theorem q_needPoint {n w h : Nat} {ua : Nat → Nat → Int32} {x y : Int} {P : Prop} {PX : String → Prop} (hx : Sm x) (hy : Sm y) (hw : w ≤ 12) (hh : h ≤ 12) (e0 : ua 0 0 = nI w) (e1 : ua 0 1 = nI h) (h1 : Pn w h x y → P) (h2 : ¬ Pn w h x y → PX "java/lang/ArrayIndexOutOfBoundsException") : wp_X3_needPoint n ua (iI x) (iI y) P PX := by
  unfold Pn at *
  unfold wp_X3_needPoint
  rw [e0, e1, iI_n, iI_n]
  exact w_lt (b := 0) hx (by unfold Sm; omega) (fun q => h2 (by omega)) (fun q => w_le (by unfold Sm; omega) hx (fun q2 => h2 (by omega)) (fun q2 => w_lt (b := 0) hy (by unfold Sm; omega) (fun q => h2 (by omega)) (fun q3 => w_lt hy (by unfold Sm; omega) (fun q4 => h1 ⟨q, q2, q3, q4⟩) (fun q4 => h2 (by omega)))))
theorem q_isPoint {w h : Nat} {um : Nat → Nat → Int32} {x y : Int} {P : Int32 → Prop} (hx : Sm x) (hy : Sm y) (hw : w ≤ 12) (hh : h ≤ 12) (e0 : um 0 1 = nI w) (e1 : um 0 2 = nI h) (h1 : Pn w h x y → P 1) (h2 : ¬ Pn w h x y → P 0) : wp_X4_isPoint um (iI x) (iI y) P := by
  unfold Pn at *
  unfold wp_X4_isPoint
  rw [e0, e1, iI_n, iI_n]
  exact w_lt (b := 0) hx (by unfold Sm; omega) (fun q => h2 (by omega)) (fun q => w_le (by unfold Sm; omega) hx (fun q2 => h2 (by omega)) (fun q2 => w_lt (b := 0) hy (by unfold Sm; omega) (fun q => h2 (by omega)) (fun q3 => w_le (by unfold Sm; omega) hy (fun q4 => h2 (by omega)) (fun q4 => h1 ⟨q, q2, q3, q4⟩))))
theorem q_needMode {z l : Int} {P : Prop} {PX : String → Prop} (hz : Sm z) (hl : Sm l) (h1 : (0 ≤ z ∧ z ≤ l) → P) (h2 : ¬ (0 ≤ z ∧ z ≤ l) → PX "java/lang/IllegalArgumentException") : wp_X3_needMode (iI z) (iI l) P PX := by
  unfold wp_X3_needMode
  exact w_lt (b := 0) hz (by unfold Sm; omega) (fun q => h2 (by omega)) (fun q => w_le hz hl (fun q2 => h1 ⟨q, q2⟩) (fun q2 => h2 (by omega)))
