/-! soft light, and all modes of bytes -/
def rtS (v : Int) : Nat → Int → Int → Int
  | 0, _, r => r
  | k + 1, bit, r => rtS v k (bit / 2) (if (r + bit) * (r + bit) ≤ v then r + bit else r)
def rootS (v : Int) : Int := rtS v 8 128 0
theorem sq_lt {a b : Int} (ha : 0 ≤ a) (hb : 0 ≤ b) (h : a * a < b * b) : a < b := by
  rcases Int.lt_or_le a b with q | q
  · exact q
  · have := Int.mul_le_mul q q hb ha
    omega
theorem sq_lt' {a b : Int} (ha : 0 ≤ a) (hb : a < b) : a * a < b * b := by
  have h1 : a * a ≤ a * b := Int.mul_le_mul_of_nonneg_left (by omega) ha
  have h2 : a * b < b * b := Int.mul_lt_mul_of_pos_right hb (by omega)
  omega
theorem root_un {v a b : Int} (ha : 0 ≤ a) (hb : 0 ≤ b) (a1 : a * a ≤ v) (a2 : v < (a + 1) * (a + 1)) (b1 : b * b ≤ v) (b2 : v < (b + 1) * (b + 1)) : a = b := by
  have h1 : a < b + 1 := sq_lt ha (by omega) (by omega)
  have h2 : b < a + 1 := sq_lt hb (by omega) (by omega)
  omega
theorem rt_step {v r bit : Int} {KX : Int32 → Prop} {N : Nat} (hr : 0 ≤ r) (hr2 : r ≤ 255) (hb : 0 < bit) (hb2 : bit ≤ 128) (hv : Sm v)
    (h : wp_X1_rootOf_6 KX (iI v) N (iI (if (r + bit) * (r + bit) ≤ v then r + bit else r)) (iI (bit / 2))) : wp_X1_rootOf_6 KX (iI v) (N + 1) (iI r) (iI bit) := by
  rw [wp_X1_rootOf_6]
  refine w_le (b := 0) (by unfold Sm; omega) (by unfold Sm; omega) (fun e => by omega) (fun e v1 e1 => ?_)
  have hm := mb (a := r + bit) (b := r + bit) (x := 383) (y := 383) (by omega) (by omega) (by omega) (by omega)
  rw [iadd] at e1
  subst e1
  rw [imul]
  have e3 : iI bit >>> ((1 : Int32) &&& 31) = iI (bit / 2) := by
    apply Int32.toInt_inj.mp
    rw [pk_shr _ _ 1 (by decide), iI_toInt (by omega) (by omega), iI_toInt (by omega) (by omega), Int.shiftRight_eq_div_pow]
    rfl
  refine w_lt hv (by unfold Sm; omega) (fun e2 => ?_) (fun e2 => ?_)
  · intro v2 e4
    rw [e3] at e4
    subst e4
    rw [if_neg (by omega)] at h
    exact h
  · intro v2 e4
    rw [e3] at e4
    subst e4
    rw [if_pos (by omega)] at h
    exact h
theorem rtS_spec (v : Int) (hv : 0 ≤ v) (hv2 : v < 65536) : 0 ≤ rootS v ∧ rootS v ≤ 255 ∧ rootS v * rootS v ≤ v ∧ v < (rootS v + 1) * (rootS v + 1) := by
  have key : ∀ (k : Nat) (p r : Int), p = 2 ^ k → 0 ≤ r → r + p ≤ 256 → r * r ≤ v → v < (r + p) * (r + p) → 0 ≤ rtS v k (p / 2) r ∧ rtS v k (p / 2) r ≤ 255 ∧ rtS v k (p / 2) r * rtS v k (p / 2) r ≤ v ∧ v < (rtS v k (p / 2) r + 1) * (rtS v k (p / 2) r + 1) := by
    intro k
    induction k with
    | zero =>
      intro p r hp h0 h1 h2 h3
      have hp : p = 1 := hp
      subst hp
      exact ⟨h0, by show r ≤ 255; omega, h2, h3⟩
    | succ k ih =>
      intro p r hp h0 h1 h2 h3
      have hq : p / 2 = 2 ^ k := by
        rw [hp, Int.pow_succ]
        omega
      have hp2 : p = p / 2 + p / 2 := by
        rw [hq, hp, Int.pow_succ]
        omega
      have hpos : 0 ≤ p / 2 := by rw [hq]; exact Int.pow_nonneg (by omega)
      show 0 ≤ rtS v k (p / 2 / 2) (if (r + p / 2) * (r + p / 2) ≤ v then r + p / 2 else r) ∧ _
      by_cases c : (r + p / 2) * (r + p / 2) ≤ v
      · have := ih (p / 2) (r + p / 2) hq (by omega) (by omega) c (by rw [show r + p / 2 + p / 2 = r + p by omega]; exact h3)
        simp only [rtS, if_pos c]
        exact this
      · have := ih (p / 2) r hq h0 (by omega) h2 (by omega)
        simp only [rtS, if_neg c]
        exact this
  exact key 8 256 0 rfl (by omega) (by omega) (by omega) (by omega)
theorem q_X1_rootOf {v : Int} {P : Int32 → Prop} (hv : 0 ≤ v) (hv2 : v < 65536) (h : P (iI (rootS v))) : wp_X1_rootOf (iI v) P := by
  have hs : Sm v := by unfold Sm; omega
  have ite_b : ∀ {r bit : Int}, 0 ≤ r → 0 ≤ bit → 0 ≤ (if (r + bit) * (r + bit) ≤ v then r + bit else r) ∧ (if (r + bit) * (r + bit) ≤ v then r + bit else r) ≤ r + bit := by
    intro r bit h1 h2
    split <;> omega
  have key : ∀ (k : Nat) (p r : Int), p = 2 ^ k → k ≤ 8 → 0 ≤ r → r + p ≤ 256 → P (iI (rtS v k (p / 2) r)) → wp_X1_rootOf_6 (fun y5 => P y5) (iI v) (k + 1) (iI r) (iI (p / 2)) := by
    intro k
    induction k with
    | zero =>
      intro p r hp _ h0 h1 hP
      have hp : p = 1 := hp
      subst hp
      rw [wp_X1_rootOf_6]
      exact ⟨fun _ => hP, fun q => absurd (by show iI 0 ≤ iI 0; rw [iI_le (by omega) (by omega) (by omega) (by omega)]; omega) q⟩
    | succ k ih =>
      intro p r hp hk h0 h1 hP
      have hq : p / 2 = 2 ^ k := by rw [hp, Int.pow_succ]; omega
      have hp2 : p = p / 2 + p / 2 := by rw [hq, hp, Int.pow_succ]; omega
      have hpos : 0 < p / 2 := by rw [hq]; exact Int.pow_pos (by omega)
      have hb := ite_b (r := r) (bit := p / 2) h0 (by omega)
      refine rt_step h0 (by omega) hpos (by omega) hs ?_
      exact ih (p / 2) _ hq (by omega) hb.1 (by omega) hP
  unfold wp_X1_rootOf
  exact ⟨9, key 8 256 0 rfl (by omega) (by omega) (by omega) h⟩
def sfS (b s : Int) : Int := if 127 < s then b + mu (2 * s - 255) (rootS (255 * b) - b) else b - mu (255 - 2 * s) (mu b (255 - b))
theorem root_ge {b : Int} (hb : Bt b) : Bt (rootS (255 * b) - b) := by
  unfold Bt at hb
  obtain ⟨h1, h2, h3, h4⟩ := rtS_spec (255 * b) (by omega) (by omega)
  unfold Bt
  refine ⟨?_, by omega⟩
  have h5 : b * b ≤ 255 * b := by
    have := Int.mul_le_mul_of_nonneg_right hb.2 hb.1
    omega
  have := sq_lt (a := b) (b := rootS (255 * b) + 1) hb.1 (by omega) (by omega)
  omega
theorem sfS_b {b s : Int} (hb : Bt b) (hs : Bt s) : Bt (sfS b s) := by
  have hb' := hb
  have hs' := hs
  unfold Bt at hb' hs'
  unfold sfS
  by_cases h : 127 < s
  · rw [if_pos h]
    have h1 := mu_b (a := 2 * s - 255) (b := rootS (255 * b) - b) (by unfold Bt; omega) (root_ge hb)
    have h2 := mu_le (root_ge hb) (b := 2 * s - 255) (by unfold Bt; omega)
    rw [mu_comm] at h2
    obtain ⟨-, h4, -, -⟩ := rtS_spec (255 * b) (by omega) (by omega)
    unfold Bt at *
    omega
  · rw [if_neg h]
    have h1 := mu_b (a := 255 - 2 * s) (b := mu b (255 - b)) (by unfold Bt; omega) (mu_b hb (by unfold Bt; omega))
    have h2 := mu_le (a := mu b (255 - b)) (b := 255 - 2 * s) (mu_b hb (by unfold Bt; omega)) (by unfold Bt; omega)
    rw [mu_comm] at h2
    have h3 := mu_le hb (b := 255 - b) (by unfold Bt; omega)
    unfold Bt at *
    omega
theorem e_255b (b : Int) : 255 * iI b = iI (255 * b) := by rw [← imul]; rfl
theorem e_255m (b : Int) : 255 - iI b = iI (255 - b) := by rw [← isub]; rfl
theorem q_X1_soft {b s : Int} {P : Int32 → Prop} (hb : Bt b) (hs : Bt s) (h : P (iI (sfS b s))) : wp_X1_softLight (iI b) (iI s) P := by
  have hb' := hb
  have hs' := hs
  unfold Bt at hb' hs'
  unfold wp_X1_softLight
  rw [e_2s5, e_2s, e_255b, e_255m, e_255m]
  refine w_lt (a := 127) (by unfold Sm; omega) (by unfold Sm; omega) (fun e => ?_) (fun e => ?_)
  · refine q_X1_rootOf (by omega) (by omega) ?_
    rw [isub]
    refine q_X2_mul (by unfold Bt; omega) (root_ge hb) ?_
    rw [iadd]
    unfold sfS at h
    rw [if_pos e] at h
    exact h
  · refine q_X2_mul hb (by unfold Bt; omega) ?_
    refine q_X2_mul (by unfold Bt; omega) (mu_b hb (by unfold Bt; omega)) ?_
    rw [isub]
    unfold sfS at h
    rw [if_neg (by omega)] at h
    exact h
theorem q_soft_loop {b : Int} {x1 : Int32} {KX : Int32 → Prop} (hb : Bt b) (h : KX (iI (rootS (255 * b)))) : ∀ (N : Nat) (d : Int), 0 ≤ d → d ≤ 255 → d * d ≤ 255 * b → (255 - d).toNat < N → wp_X4_soft_35 KX (iI b) x1 N (iI d) := by
  have hb' := hb
  unfold Bt at hb'
  obtain ⟨r1, r2, r3, r4⟩ := rtS_spec (255 * b) (by omega) (by omega)
  intro N
  induction N with
  | zero => intro d _ _ _ h4; omega
  | succ N ih =>
    intro d h1 h2 h3 h4
    rw [wp_X4_soft_35]
    have e1 : iI d + 1 = iI (d + 1) := by rw [← iadd]; rfl
    have hm := mb (a := d + 1) (b := d + 1) (x := 256) (y := 256) (by omega) (by omega) (by omega) (by omega)
    rw [e_255b, e1, imul]
    refine w_lt (by unfold Sm; omega) (by unfold Sm; omega) (fun e => ?_) (fun e v1 e2 => ?_)
    · have : d = rootS (255 * b) := root_un h1 r1 h3 e r3 r4
      rw [this]; exact h
    · subst e2
      have : d + 1 < 256 := sq_lt (by omega) (by omega) (by omega)
      exact ih (d + 1) (by omega) (by omega) e (by omega)
theorem q_X4_soft {b s : Int} {P : Int32 → Prop} (hb : Bt b) (hs : Bt s) (h : P (iI (sfS b s))) : wp_X4_soft (iI b) (iI s) P := by
  have hb' := hb
  have hs' := hs
  unfold Bt at hb' hs'
  unfold wp_X4_soft
  rw [e_2s5, e_2s, e_255m, e_255m]
  refine w_lt (a := 127) (by unfold Sm; omega) (by unfold Sm; omega) (fun e => ⟨300, ?_⟩) (fun e => ?_)
  · refine q_soft_loop hb ?_ 300 0 (by omega) (by omega) (by omega) (by omega)
    rw [isub, e_mu (by unfold Bt; omega) (root_ge hb), iadd]
    unfold sfS at h
    rw [if_pos e] at h
    exact h
  · refine q_X4_mul hb (by unfold Bt; omega) ?_
    rw [e_mu (by unfold Bt; omega) (mu_b hb (by unfold Bt; omega)), isub]
    unfold sfS at h
    rw [if_neg (by omega)] at h
    exact h
