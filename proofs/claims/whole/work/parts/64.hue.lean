/-! quotients toward minus infinity, luminosity, saturation -/
theorem xor_sign {x y : Int32} (h : 0 ≤ y.toInt) : 0 ≤ (x ^^^ y) ↔ 0 ≤ x.toInt := by
  rw [Int32.le_iff_toInt_le]
  show (0 : Int) ≤ (x ^^^ y).toInt ↔ _
  have e1 : ∀ z : Int32, 0 ≤ z.toInt ↔ z.toBitVec.msb = false := by
    intro z
    rw [BitVec.msb_eq_toInt]
    show 0 ≤ z.toBitVec.toInt ↔ _
    rw [decide_eq_false_iff_not]
    omega
  rw [e1, e1, Int32.toBitVec_xor, BitVec.msb_xor, (e1 y).mp h, Bool.xor_false]
theorem fl_neg {a b : Int} (hb : 0 < b) (h : ¬ b ∣ a) (h0 : a < 0) : a / b = a.tdiv b - 1 := by
  rw [Int.tdiv_eq_ediv, if_neg (by intro q; rcases q with q | q; omega; exact h q), Int.sign_eq_one_of_pos hb]
  omega
theorem fl_dvd {a b : Int} (h : b ∣ a) : a / b = a.tdiv b := by
  rw [Int.tdiv_eq_ediv, if_pos (Or.inr h)]
  omega
theorem td_b {a b : Int} : -(a.natAbs : Int) ≤ a.tdiv b ∧ a.tdiv b ≤ a.natAbs := by
  have := Int.natAbs_tdiv_le_natAbs a b
  omega
theorem q_floorDiv {a b : Int} {P : Int32 → Prop} (ha : -1000000000 ≤ a) (ha2 : a ≤ 1000000000) (hb : 0 < b) (hb2 : b ≤ 1000000000) (h : P (iI (a / b))) : wp_J9_floorDiv (iI a) (iI b) P := by
  unfold wp_J9_floorDiv
  refine ⟨w_nz (by unfold Sm; omega) (by omega), fun v1 e1 => ?_⟩
  rw [iI_td (by omega) (by omega) (by omega) (by omega)] at e1
  subst e1
  have hx : 0 ≤ (iI a ^^^ iI b) ↔ 0 ≤ a := by
    rw [xor_sign (by rw [iI_toInt (by omega) (by omega)]; omega), iI_toInt (by omega) (by omega)]
  refine ⟨fun q => ?_, fun q => ?_⟩
  · rw [← Int.tdiv_eq_ediv_of_nonneg (hx.mp q)] at h
    exact h
  · rw [hx] at q
    have hd := td_b (a := a) (b := b)
    have he : iI (a.tdiv b) * iI b = iI a ↔ a.tdiv b * b = a := by
      rw [imul]
      have h2 := Int.mul_tdiv_add_tmod a b
      have h3 := Int.tmod_lt_of_pos a hb
      have h4 := Int.lt_tmod_of_pos a hb
      rw [Int.mul_comm] at h2
      exact iI_eq (by omega) (by omega) (by omega) (by omega)
    refine ⟨fun q2 => ?_, fun q2 => ?_⟩
    · rw [fl_dvd ⟨a.tdiv b, by rw [Int.mul_comm]; exact (he.mp q2).symm⟩] at h
      exact h
    · have hn : ¬ b ∣ a := fun q3 => q2 (he.mpr (by rw [Int.mul_comm]; exact Int.mul_tdiv_cancel' q3))
      rw [fl_neg hb hn (by omega), ← isub] at h
      exact h
theorem q_down {a b : Int} {P : Int32 → Prop} (ha : -1000000000 ≤ a) (ha2 : a ≤ 1000000000) (hb : 0 < b) (hb2 : b ≤ 1000000000) (h : P (iI (a / b))) : wp_X4_down (iI a) (iI b) P := by
  unfold wp_X4_down
  have nz := w_nz (a := b) (by unfold Sm; omega) (by omega)
  refine ⟨nz, fun v1 e1 => ⟨nz, ?_⟩⟩
  rw [iI_td (by omega) (by omega) (by omega) (by omega)] at e1 ⊢
  subst e1
  have hd := td_b (a := a) (b := b)
  have h2 := Int.mul_tdiv_add_tmod a b
  have h3 := Int.tmod_lt_of_pos a hb
  have h4 := Int.lt_tmod_of_pos a hb
  have h2' := h2
  rw [Int.mul_comm] at h2
  rw [imul, isub]
  refine w_eq (b := 0) (by unfold Sm; omega) (by unfold Sm; omega) (fun q => ?_) (fun q => ?_)
  · rw [fl_dvd ⟨a.tdiv b, by rw [Int.mul_comm]; omega⟩] at h
    exact h
  · have hn : ¬ b ∣ a := fun q3 => q (by have := Int.mul_tdiv_cancel' q3; rw [Int.mul_comm] at this; omega)
    have p0 : (0 : Int32) ≤ iI b := (iI_le (a := 0) (by omega) (by omega) (by omega) (by omega)).mpr (by omega)
    refine w_le (a := 0) (by unfold Sm; omega) (by unfold Sm; omega) (fun q2 => ?_) (fun q2 => ?_)
    · refine bt p0 (bt rfl ?_)
      rw [← Int.tdiv_eq_ediv_of_nonneg q2] at h
      exact h
    · refine bt p0 (bf (by decide) ?_)
      rw [fl_neg hb hn q2, ← isub] at h
      exact h
theorem fdb {a b K : Int} (hb : 0 < b) (hK : 0 ≤ K) (h1 : -K ≤ a) (h2 : a ≤ K) : -K ≤ a / b ∧ a / b ≤ K := by
  have h3 : K * 1 ≤ K * b := Int.mul_le_mul_of_nonneg_left (by omega) hK
  constructor
  · apply Int.le_ediv_of_mul_le hb
    rw [Int.neg_mul]
    omega
  · apply Int.ediv_le_of_le_mul hb
    omega
def lmS (r g b : Int) : Int := (30 * r + 59 * g + 11 * b) / 100
def mn3 (r g b : Int) : Int := if (if b < g then b else g) < r then (if b < g then b else g) else r
def mx3 (r g b : Int) : Int := if r < (if g < b then b else g) then (if g < b then b else g) else r
theorem mn3_s (r g b : Int) : mn3 r g b ≤ r ∧ mn3 r g b ≤ g ∧ mn3 r g b ≤ b ∧ (mn3 r g b = r ∨ mn3 r g b = g ∨ mn3 r g b = b) := by
  unfold mn3
  by_cases h : b < g
  · rw [if_pos h]
    by_cases h2 : b < r
    · rw [if_pos h2]; omega
    · rw [if_neg h2]; omega
  · rw [if_neg h]
    by_cases h2 : g < r
    · rw [if_pos h2]; omega
    · rw [if_neg h2]; omega
theorem mx3_s (r g b : Int) : r ≤ mx3 r g b ∧ g ≤ mx3 r g b ∧ b ≤ mx3 r g b ∧ (mx3 r g b = r ∨ mx3 r g b = g ∨ mx3 r g b = b) := by
  unfold mx3
  by_cases h : g < b
  · rw [if_pos h]
    by_cases h2 : r < b
    · rw [if_pos h2]; omega
    · rw [if_neg h2]; omega
  · rw [if_neg h]
    by_cases h2 : r < g
    · rw [if_pos h2]; omega
    · rw [if_neg h2]; omega
theorem q_X1_leastOf {r g b : Int} {P : Int32 → Prop} (hr : Sm r) (hg : Sm g) (hb : Sm b) (h : P (iI (mn3 r g b))) : wp_X1_leastOf (iI r) (iI g) (iI b) P := by
  unfold wp_X1_leastOf
  rw [ilt hb hg, ilt (by split; exact hb; exact hg) hr]
  exact h
theorem q_X1_mostOf {r g b : Int} {P : Int32 → Prop} (hr : Sm r) (hg : Sm g) (hb : Sm b) (h : P (iI (mx3 r g b))) : wp_X1_mostOf (iI r) (iI g) (iI b) P := by
  unfold wp_X1_mostOf
  rw [ilt hg hb, ilt hr (by split; exact hb; exact hg)]
  exact h
def R3 (f : Nat → Int32) (a b c : Int) : Prop := f 0 = iI a ∧ f 1 = iI b ∧ f 2 = iI c
theorem q_X4_least {f : Nat → Int32} {r g b : Int} {P : Int32 → Prop} (hf : R3 f r g b) (hr : Sm r) (hg : Sm g) (hb : Sm b) (h : P (iI (mn3 r g b))) : wp_X4_least f P := by
  obtain ⟨f0, f1, f2⟩ := hf
  have hs := mn3_s r g b
  unfold wp_X4_least wp_X4_least_18
  rw [f0, f1, f2]
  refine w_le hg hr (fun q => w_le hb hg (fun q2 => ?_) (fun q2 => ?_)) (fun q => w_le hb hr (fun q2 => ?_) (fun q2 => ?_))
  · rw [show mn3 r g b = b by omega] at h; exact h
  · rw [show mn3 r g b = g by omega] at h; exact h
  · rw [show mn3 r g b = b by omega] at h; exact h
  · rw [show mn3 r g b = r by omega] at h; exact h
theorem q_X4_greatest {f : Nat → Int32} {r g b : Int} {P : Int32 → Prop} (hf : R3 f r g b) (hr : Sm r) (hg : Sm g) (hb : Sm b) (h : P (iI (mx3 r g b))) : wp_X4_greatest f P := by
  obtain ⟨f0, f1, f2⟩ := hf
  have hs := mx3_s r g b
  unfold wp_X4_greatest wp_X4_greatest_18
  rw [f0, f1, f2]
  refine w_le hr hg (fun q => w_le hg hb (fun q2 => ?_) (fun q2 => ?_)) (fun q => w_le hr hb (fun q2 => ?_) (fun q2 => ?_))
  · rw [show mx3 r g b = b by omega] at h; exact h
  · rw [show mx3 r g b = g by omega] at h; exact h
  · rw [show mx3 r g b = b by omega] at h; exact h
  · rw [show mx3 r g b = r by omega] at h; exact h
theorem q_X4_sat {f : Nat → Int32} {r g b : Int} {P : Int32 → Prop} (hf : R3 f r g b) (hr : Sm r) (hg : Sm g) (hb : Sm b) (h : P (iI (mx3 r g b - mn3 r g b))) : wp_X4_sat f P := by
  unfold wp_X4_sat
  refine q_X4_greatest hf hr hg hb (q_X4_least hf hr hg hb ?_)
  rw [isub]
  exact h
def Md (a : Int) : Prop := -1000000 ≤ a ∧ a ≤ 1000000
theorem Bt.md {a : Int} (h : Bt a) : Md a := by unfold Bt at h; unfold Md; omega
theorem Md.sm {a : Int} (h : Md a) : Sm a := by unfold Md at h; unfold Sm; omega
theorem e_lum (r g b : Int) : ((30 * iI r) + (59 * iI g)) + (11 * iI b) = iI (30 * r + 59 * g + 11 * b) := by
  rw [← iadd, ← iadd, ← imul, ← imul, ← imul]
  rfl
theorem q_X2_lum {r g b : Int} {P : Int32 → Prop} (hr : Md r) (hg : Md g) (hb : Md b) (h : P (iI (lmS r g b))) : wp_X2_lum (iI r) (iI g) (iI b) P := by
  unfold wp_X2_lum
  unfold Md at *
  rw [e_lum]
  exact q_floorDiv (b := 100) (by omega) (by omega) (by omega) (by omega) h
theorem q_X4_lum {f : Nat → Int32} {r g b : Int} {P : Int32 → Prop} (hf : R3 f r g b) (hr : Md r) (hg : Md g) (hb : Md b) (h : P (iI (lmS r g b))) : wp_X4_lum f P := by
  obtain ⟨f0, f1, f2⟩ := hf
  unfold wp_X4_lum
  unfold Md at *
  rw [f0, f1, f2, e_lum]
  exact q_down (b := 100) (by omega) (by omega) (by omega) (by omega) h
theorem lmS_b {r g b : Int} (hr : Bt r) (hg : Bt g) (hb : Bt b) : Bt (lmS r g b) := by
  unfold Bt at *
  unfold lmS
  omega
theorem lmS_add (r g b d : Int) : lmS (r + d) (g + d) (b + d) = lmS r g b + d := by
  unfold lmS
  omega
/-! one band with another saturation, and drawn in -/
def ssS (x n v s : Int) : Int := if s = 0 then 0 else (x - n) * v / s
theorem ssS_b {x n v s : Int} (h1 : n ≤ x) (h2 : x - n ≤ s) (hv : Bt v) : Bt (ssS x n v s) := by
  unfold ssS
  by_cases h : s = 0
  · rw [if_pos h]; unfold Bt; omega
  · rw [if_neg h]
    have h0 : 0 < s := by omega
    have h3 : 0 ≤ (x - n) * v := Int.mul_nonneg (by omega) hv.1
    have h4 : (x - n) * v ≤ s * 255 := Int.mul_le_mul h2 hv.2 hv.1 (by omega)
    refine ⟨Int.ediv_nonneg h3 (by omega), ?_⟩
    apply Int.ediv_le_of_le_mul h0
    rw [Int.mul_comm 255 s]; exact h4
def clS (c : Int) : Int := if 0 < (if c < 255 then c else 255) then (if c < 255 then c else 255) else 0
theorem clS_b (c : Int) : Bt (clS c) := by
  unfold clS Bt
  by_cases h : c < 255
  · rw [if_pos h]; split <;> omega
  · rw [if_neg h]; split <;> omega
theorem q_X2_within {c : Int} {P : Int32 → Prop} (hc : Sm c) (h : P (iI (clS c))) : wp_X2_within (iI c) P := by
  unfold wp_X2_within
  have e1 := ilt (a := c) (b := 255) (x := c) (y := 255) hc (by unfold Sm; omega)
  have e2 := ilt (a := 0) (b := if c < 255 then c else 255) (x := if c < 255 then c else 255) (y := 0) (by unfold Sm; omega) (by split; exact hc; unfold Sm; omega)
  rw [show (255 : Int32) = iI 255 from rfl, e1]
  show P (if iI 0 < _ then _ else iI 0)
  rw [e2]
  exact h
def d1S (x l n : Int) : Int := if n < 0 then l + (x - l) * l / (l - n) else x
def d2S (c l m : Int) : Int := if 255 < m then l + (c - l) * (255 - l) / (m - l) else c
def drS (x l n m : Int) : Int := clS (d2S (d1S x l n) l m)
theorem mulB {a b K M : Int} (h1 : -K ≤ a) (h2 : a ≤ K) (h3 : 0 ≤ b) (h4 : b ≤ M) (hK : 0 ≤ K) : -(K * M) ≤ a * b ∧ a * b ≤ K * M := by
  have q1 : a * b ≤ K * b := Int.mul_le_mul_of_nonneg_right h2 h3
  have q2 : K * b ≤ K * M := Int.mul_le_mul_of_nonneg_left h4 hK
  have q3 : -K * b ≤ a * b := Int.mul_le_mul_of_nonneg_right h1 h3
  rw [Int.neg_mul] at q3
  omega
theorem d1S_b {x l n : Int} (hx : -1000 ≤ x) (hx2 : x ≤ 1000) (hl : Bt l) : -400000 ≤ d1S x l n ∧ d1S x l n ≤ 400000 := by
  unfold Bt at hl
  unfold d1S
  by_cases h : n < 0
  · rw [if_pos h]
    have h1 := mulB (a := x - l) (b := l) (K := 1300) (M := 255) (by omega) (by omega) hl.1 hl.2 (by omega)
    have h2 := fdb (a := (x - l) * l) (b := l - n) (K := 331500) (by omega) (by omega) (by omega) (by omega)
    omega
  · rw [if_neg h]; omega
theorem d2S_b {c l m : Int} (hx : -400000 ≤ c) (hx2 : c ≤ 400000) (hl : Bt l) : -110000000 ≤ d2S c l m ∧ d2S c l m ≤ 110000000 := by
  unfold Bt at hl
  unfold d2S
  by_cases h : 255 < m
  · rw [if_pos h]
    have h1 := mulB (a := c - l) (b := 255 - l) (K := 401000) (M := 255) (by omega) (by omega) (by omega) (by omega) (by omega)
    have h2 := fdb (a := (c - l) * (255 - l)) (b := m - l) (K := 102255000) (by omega) (by omega) (by omega) (by omega)
    omega
  · rw [if_neg h]; omega
theorem q_X1_drawnIn {x l n m : Int} {P : Int32 → Prop} (hx : -1000 ≤ x) (hx2 : x ≤ 1000) (hn : -1000 ≤ n) (hn2 : n ≤ 1000) (hm : -1000 ≤ m) (hm2 : m ≤ 1000) (hl : Bt l) (h : P (iI (drS x l n m))) : wp_X1_drawnIn (iI x) (iI l) (iI n) (iI m) P := by
  have hl' := hl
  unfold Bt at hl'
  have hb1 := d1S_b (n := n) hx hx2 hl
  have hb2 := d2S_b (m := m) hb1.1 hb1.2 hl
  have step : wp_X1_drawnIn_28 P (iI l) (iI m) (iI (d1S x l n)) := by
    unfold wp_X1_drawnIn_28 wp_X1_drawnIn_60
    unfold drS at h
    have fin : ∀ c : Int, d2S (d1S x l n) l m = c → wp_X2_within (iI c) (fun r1 => P r1) := fun c e => q_X2_within (by unfold Sm; omega) (by rw [e] at h; exact h)
    refine w_le (b := 255) (by unfold Sm; omega) (by unfold Sm; omega) (fun q => fin _ (by unfold d2S; rw [if_neg (by omega)])) (fun q => ?_)
    refine w_le (by unfold Sm; omega) (by unfold Sm; omega) (fun q2 => by omega) (fun q2 => ?_)
    rw [isub, e_255m, imul, isub]
    have h1 := mulB (a := d1S x l n - l) (b := 255 - l) (K := 401000) (M := 255) (by omega) (by omega) (by omega) (by omega) (by omega)
    refine q_floorDiv (by omega) (by omega) (by omega) (by omega) (fun v3 e3 => ?_)
    rw [iadd] at e3
    subst e3
    exact fin _ (by unfold d2S; rw [if_pos q])
  unfold wp_X1_drawnIn
  refine w_le (a := 0) (by unfold Sm; omega) (by unfold Sm; omega) (fun q => ?_) (fun q => ?_)
  · rw [show d1S x l n = x by unfold d1S; rw [if_neg (by omega)]] at step; exact step
  · refine w_le (by unfold Sm; omega) (by unfold Sm; omega) (fun q2 => by omega) (fun q2 => ?_)
    rw [isub, imul, isub]
    have h1 := mulB (a := x - l) (b := l) (K := 1300) (M := 255) (by omega) (by omega) hl'.1 hl'.2 (by omega)
    refine q_floorDiv (by omega) (by omega) (by omega) (by omega) (fun v3 e3 => ?_)
    rw [iadd] at e3
    subst e3
    rw [show d1S x l n = l + (x - l) * l / (l - n) by unfold d1S; rw [if_pos q]] at step; exact step
