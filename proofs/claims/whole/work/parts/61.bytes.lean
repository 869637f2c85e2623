/-! the modes of bytes -/
def Sm (a : Int) : Prop := -2147483648 ≤ a ∧ a < 2147483648
theorem w_le {a b : Int} {X Y : Prop} (ha : Sm a) (hb : Sm b) (hx : a ≤ b → X) (hy : b < a → Y) : (iI a ≤ iI b → X) ∧ (¬ iI a ≤ iI b → Y) :=
  ⟨fun h => hx ((iI_le ha.1 ha.2 hb.1 hb.2).mp h), fun h => hy (by rw [iI_le ha.1 ha.2 hb.1 hb.2] at h; omega)⟩
theorem w_lt {a b : Int} {X Y : Prop} (ha : Sm a) (hb : Sm b) (hx : a < b → X) (hy : b ≤ a → Y) : (iI a < iI b → X) ∧ (¬ iI a < iI b → Y) :=
  ⟨fun h => hx ((iI_lt ha.1 ha.2 hb.1 hb.2).mp h), fun h => hy (by rw [iI_lt ha.1 ha.2 hb.1 hb.2] at h; omega)⟩
theorem w_eq {a b : Int} {X Y : Prop} (ha : Sm a) (hb : Sm b) (hx : a = b → X) (hy : ¬ a = b → Y) : (iI a = iI b → X) ∧ (¬ iI a = iI b → Y) :=
  ⟨fun h => hx ((iI_eq ha.1 ha.2 hb.1 hb.2).mp h), fun h => hy (by rw [iI_eq ha.1 ha.2 hb.1 hb.2] at h; exact h)⟩
theorem w_ne {a b : Int} {X Y : Prop} (ha : Sm a) (hb : Sm b) (hx : a = b → X) (hy : ¬ a = b → Y) : (¬ iI a = iI b → Y) ∧ (iI a = iI b → X) := ⟨(w_eq ha hb hx hy).2, (w_eq ha hb hx hy).1⟩
theorem w_nz {a : Int} (ha : Sm a) (h : ¬ a = 0) : ¬ iI a = 0 := fun q => h ((iI_eq (b := 0) ha.1 ha.2 (by omega) (by omega)).mp q)
theorem dvb {x r k : Int} (hr : 0 < r) (hx : 0 ≤ x) (h : x < (k + 1) * r) : 0 ≤ x / r ∧ x / r ≤ k := ⟨Int.ediv_nonneg hx (by omega), by have := Int.ediv_lt_of_lt_mul hr h; omega⟩
def dgS (b s : Int) : Int := if b = 0 then 0 else if 255 ≤ b + s then 255 else (255 * b + (255 - s) / 2) / (255 - s)
def bnS (b s : Int) : Int := if b = 255 then 255 else if b + s ≤ 255 then 0 else 255 - (255 * (255 - b) + s / 2) / s
def hdS (b s : Int) : Int := if 127 < s then un b (2 * s - 255) else mu b (2 * s)
theorem dgS_b {b s : Int} (hb : Bt b) (hs : Bt s) : Bt (dgS b s) := by
  unfold Bt at *
  unfold dgS
  by_cases h : b = 0
  · rw [if_pos h]; omega
  · rw [if_neg h]
    by_cases h2 : 255 ≤ b + s
    · rw [if_pos h2]; omega
    · rw [if_neg h2]
      exact dvb (by omega) (by omega) (by omega)
theorem bnS_b {b s : Int} (hb : Bt b) (hs : Bt s) : Bt (bnS b s) := by
  unfold Bt at *
  unfold bnS
  by_cases h : b = 255
  · rw [if_pos h]; omega
  · rw [if_neg h]
    by_cases h2 : b + s ≤ 255
    · rw [if_pos h2]; omega
    · rw [if_neg h2]
      have := dvb (x := 255 * (255 - b) + s / 2) (r := s) (k := 255) (by omega) (by omega) (by omega)
      omega
theorem hdS_b {b s : Int} (hb : Bt b) (hs : Bt s) : Bt (hdS b s) := by
  unfold hdS
  by_cases h : 127 < s
  · rw [if_pos h]; exact un_b hb (by unfold Bt at *; omega)
  · rw [if_neg h]; exact mu_b hb (by unfold Bt at *; omega)
theorem q_X1_dodge {b s : Int} {P : Int32 → Prop} (hb : Bt b) (hs : Bt s) (h : P (iI (dgS b s))) : wp_X1_dodge (iI b) (iI s) P := by
  unfold Bt at hb hs
  unfold wp_X1_dodge
  refine w_ne (b := 0) (by unfold Sm; omega) (by unfold Sm; omega) (fun e => ?_) (fun e v1 e1 => ?_)
  · have : dgS b s = 0 := by unfold dgS; rw [if_pos e]
    rw [this] at h; exact h
  · have e1 : v1 = iI (255 - s) := by rw [e1, ← isub]; rfl
    subst e1
    refine w_le (by unfold Sm; omega) (by unfold Sm; omega) (fun e2 => ?_) (fun e2 => ?_)
    · have : dgS b s = 255 := by unfold dgS; rw [if_neg e, if_pos (by omega)]
      rw [this] at h; exact h
    · refine w_lt (a := 0) (by unfold Sm; omega) (by unfold Sm; omega) (fun e3 => ⟨w_nz (by unfold Sm; omega) (by omega), ?_⟩) (fun e3 => by omega)
      have : dgS b s = (255 * b + (255 - s) / 2) / (255 - s) := by unfold dgS; rw [if_neg e, if_neg (by omega)]
      rw [this] at h
      have e4 : ((255 * iI b) + (iI (255 - s) / 2)) / iI (255 - s) = iI ((255 * b + (255 - s) / 2) / (255 - s)) := by
        show (iI 255 * iI b + iI (255 - s) / iI 2) / iI (255 - s) = _
        rw [iI_dv (a := 255 - s) (b := 2) (by omega) (by omega) (by omega) (by omega), ← Int32.ofInt_mul, ← Int32.ofInt_add, iI_dv (by omega) (by omega) (by omega) (by omega)]
      rw [e4]; exact h
theorem q_X4_dodge {b s : Int} {P : Int32 → Prop} (hb : Bt b) (hs : Bt s) (h : P (iI (dgS b s))) : wp_X4_dodge (iI b) (iI s) P := by
  unfold Bt at hb hs
  unfold wp_X4_dodge
  have e9 : iI b + iI s = iI (b + s) := (Int32.ofInt_add b s).symm
  have e8 : (255 : Int32) - iI s = iI (255 - s) := by rw [← isub]; rfl
  refine w_ne (b := 0) (by unfold Sm; omega) (by unfold Sm; omega) (fun e => ?_) (fun e => ?_)
  · have : dgS b s = 0 := by unfold dgS; rw [if_pos e]
    rw [this] at h; exact h
  · rw [e9, e8]
    refine w_lt (b := 255) (by unfold Sm; omega) (by unfold Sm; omega) (fun e2 => ⟨w_nz (by unfold Sm; omega) (by omega), ?_⟩) (fun e2 => ?_)
    · have : dgS b s = (255 * b + (255 - s) / 2) / (255 - s) := by unfold dgS; rw [if_neg e, if_neg (by omega)]
      rw [this] at h
      have e4 : ((255 * iI b) + (iI (255 - s) / 2)) / iI (255 - s) = iI ((255 * b + (255 - s) / 2) / (255 - s)) := by
        show (iI 255 * iI b + iI (255 - s) / iI 2) / iI (255 - s) = _
        rw [iI_dv (a := 255 - s) (b := 2) (by omega) (by omega) (by omega) (by omega), ← Int32.ofInt_mul, ← Int32.ofInt_add, iI_dv (by omega) (by omega) (by omega) (by omega)]
      rw [e4]; exact h
    · have : dgS b s = 255 := by unfold dgS; rw [if_neg e, if_pos (by omega)]
      rw [this] at h; exact h
theorem e_bn {b s : Int} (hb : Bt b) (hs : Bt s) (h0 : 0 < s) : 255 - (((255 * (255 - iI b)) + (iI s / 2)) / iI s) = iI (255 - (255 * (255 - b) + s / 2) / s) := by
  unfold Bt at hb hs
  show iI 255 - ((iI 255 * (iI 255 - iI b)) + (iI s / iI 2)) / iI s = _
  rw [iI_dv (a := s) (b := 2) (by omega) (by omega) (by omega) (by omega), ← Int32.ofInt_sub, ← Int32.ofInt_mul, ← Int32.ofInt_add, iI_dv (by omega) (by omega) (by omega) (by omega), ← Int32.ofInt_sub]
theorem q_X1_burn {b s : Int} {P : Int32 → Prop} (hb : Bt b) (hs : Bt s) (h : P (iI (bnS b s))) : wp_X1_burn (iI b) (iI s) P := by
  have hb' := hb
  have hs' := hs
  unfold Bt at hb' hs'
  unfold wp_X1_burn
  have e9 : iI b + iI s = iI (b + s) := (Int32.ofInt_add b s).symm
  refine w_ne (b := 255) (by unfold Sm; omega) (by unfold Sm; omega) (fun e => ?_) (fun e => ?_)
  · have : bnS b s = 255 := by unfold bnS; rw [if_pos e]
    rw [this] at h; exact h
  · rw [e9]
    refine w_le (b := 255) (by unfold Sm; omega) (by unfold Sm; omega) (fun e2 => ?_) (fun e2 => ?_)
    · have : bnS b s = 0 := by unfold bnS; rw [if_neg e, if_pos (by omega)]
      rw [this] at h; exact h
    · refine w_lt (a := 0) (by unfold Sm; omega) (by unfold Sm; omega) (fun e3 => ⟨w_nz (by unfold Sm; omega) (by omega), ?_⟩) (fun e3 => by omega)
      rw [e_bn hb hs e3]
      have : bnS b s = 255 - (255 * (255 - b) + s / 2) / s := by unfold bnS; rw [if_neg e, if_neg (by omega)]
      rw [this] at h; exact h
theorem q_X4_burn {b s : Int} {P : Int32 → Prop} (hb : Bt b) (hs : Bt s) (h : P (iI (bnS b s))) : wp_X4_burn (iI b) (iI s) P := by
  have hb' := hb
  have hs' := hs
  unfold Bt at hb' hs'
  unfold wp_X4_burn
  have e9 : iI b + iI s = iI (b + s) := (Int32.ofInt_add b s).symm
  refine w_ne (b := 255) (by unfold Sm; omega) (by unfold Sm; omega) (fun e => ?_) (fun e => ?_)
  · have : bnS b s = 255 := by unfold bnS; rw [if_pos e]
    rw [this] at h; exact h
  · rw [e9]
    refine w_lt (a := 255) (by unfold Sm; omega) (by unfold Sm; omega) (fun e2 => ⟨w_nz (by unfold Sm; omega) (by omega), ?_⟩) (fun e2 => ?_)
    · rw [e_bn hb hs (by omega)]
      have : bnS b s = 255 - (255 * (255 - b) + s / 2) / s := by unfold bnS; rw [if_neg e, if_neg (by omega)]
      rw [this] at h; exact h
    · have : bnS b s = 0 := by unfold bnS; rw [if_neg e, if_pos (by omega)]
      rw [this] at h; exact h
theorem e_2s (s : Int) : 2 * iI s = iI (2 * s) := by rw [← imul]; rfl
theorem e_2s5 (s : Int) : (2 * iI s) - 255 = iI (2 * s - 255) := by rw [e_2s, ← isub]; rfl
theorem q_X1_hard {b s : Int} {P : Int32 → Prop} (hb : Bt b) (hs : Bt s) (h : P (iI (hdS b s))) : wp_X1_hardLight (iI b) (iI s) P := by
  have hs' := hs
  unfold Bt at hs'
  unfold wp_X1_hardLight
  rw [e_2s5, e_2s]
  refine w_lt (a := 127) (by unfold Sm; omega) (by unfold Sm; omega) (fun e => ?_) (fun e => ?_)
  · refine q_X2_union hb (by unfold Bt; omega) ?_
    have : hdS b s = un b (2 * s - 255) := by unfold hdS; rw [if_pos e]
    rw [this] at h; exact h
  · refine q_X2_mul hb (by unfold Bt; omega) ?_
    have : hdS b s = mu b (2 * s) := by unfold hdS; rw [if_neg (by omega)]
    rw [this] at h; exact h
theorem q_X4_hard {b s : Int} {P : Int32 → Prop} (hb : Bt b) (hs : Bt s) (h : P (iI (hdS b s))) : wp_X4_hard (iI b) (iI s) P := by
  have hs' := hs
  unfold Bt at hs'
  unfold wp_X4_hard
  rw [e_2s5, e_2s]
  refine w_lt (a := 127) (by unfold Sm; omega) (by unfold Sm; omega) (fun e v1 e1 => ?_) (fun e => ?_)
  · subst e1
    refine q_X4_mul hb (by unfold Bt; omega) ?_
    have : hdS b s = un b (2 * s - 255) := by unfold hdS; rw [if_pos e]
    rw [this] at h
    rw [← Int32.ofInt_add, ← Int32.ofInt_sub]
    exact h
  · refine q_X4_mul hb (by unfold Bt; omega) ?_
    have : hdS b s = mu b (2 * s) := by unfold hdS; rw [if_neg (by omega)]
    rw [this] at h; exact h
