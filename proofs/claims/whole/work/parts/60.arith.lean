/-! numbers: ints as Int32.ofInt of whole numbers -/
abbrev iI (z : Int) : Int32 := Int32.ofInt z
theorem iI_toInt {z : Int} (h : -2147483648 ≤ z) (h2 : z < 2147483648) : (iI z).toInt = z := Int32.toInt_ofInt_of_le (by omega) (by omega)
theorem iI_of (x : Int32) : x = iI x.toInt := (Int32.ofInt_toInt x).symm
theorem iI_n (k : Nat) : nI k = iI (k : Int) := by
  show Int32.ofNat k = Int32.ofInt (k : Int)
  apply Int32.toBitVec.inj
  simp
theorem iI_le {a b : Int} (ha : -2147483648 ≤ a) (ha2 : a < 2147483648) (hb : -2147483648 ≤ b) (hb2 : b < 2147483648) : iI a ≤ iI b ↔ a ≤ b := by
  rw [Int32.le_iff_toInt_le, iI_toInt ha ha2, iI_toInt hb hb2]
theorem iI_lt {a b : Int} (ha : -2147483648 ≤ a) (ha2 : a < 2147483648) (hb : -2147483648 ≤ b) (hb2 : b < 2147483648) : iI a < iI b ↔ a < b := by
  rw [Int32.lt_iff_toInt_lt, iI_toInt ha ha2, iI_toInt hb hb2]
theorem iI_eq {a b : Int} (ha : -2147483648 ≤ a) (ha2 : a < 2147483648) (hb : -2147483648 ≤ b) (hb2 : b < 2147483648) : iI a = iI b ↔ a = b := by
  rw [← Int32.toInt_inj, iI_toInt ha ha2, iI_toInt hb hb2]
theorem iI_td {a b : Int} (ha : -2147483648 < a) (ha2 : a < 2147483648) (hb : -2147483648 ≤ b) (hb2 : b < 2147483648) : iI a / iI b = iI (a.tdiv b) := by
  apply Int32.toInt_inj.mp
  have h1 : (iI a) ≠ Int32.minValue := by
    intro h
    have := congrArg Int32.toInt h
    rw [iI_toInt (by omega) ha2, Int32.toInt_minValue] at this
    omega
  rw [Int32.toInt_div_of_ne_left _ _ h1, iI_toInt (by omega) ha2, iI_toInt hb hb2]
  have h2 := Int.natAbs_tdiv_le_natAbs a b
  rw [iI_toInt (by omega) (by omega)]
theorem iI_dv {a b : Int} (ha : 0 ≤ a) (ha2 : a < 2147483648) (hb : 0 ≤ b) (hb2 : b < 2147483648) : iI a / iI b = iI (a / b) := by
  rw [iI_td (by omega) ha2 (by omega) hb2, Int.tdiv_eq_ediv_of_nonneg ha]
theorem iadd (a b : Int) : iI a + iI b = iI (a + b) := (Int32.ofInt_add a b).symm
theorem isub (a b : Int) : iI a - iI b = iI (a - b) := (Int32.ofInt_sub a b).symm
theorem imul (a b : Int) : iI a * iI b = iI (a * b) := (Int32.ofInt_mul a b).symm
def Bt (a : Int) : Prop := 0 ≤ a ∧ a ≤ 255
theorem mb {a b x y : Int} (ha : 0 ≤ a) (ha2 : a ≤ x) (hb : 0 ≤ b) (hb2 : b ≤ y) : 0 ≤ a * b ∧ a * b ≤ x * y := ⟨Int.mul_nonneg ha hb, Int.mul_le_mul ha2 hb2 hb (by omega)⟩
def mu (a b : Int) : Int := (a * b + 127) / 255
def un (a b : Int) : Int := a + b - mu a b
theorem mu_b {a b : Int} (ha : Bt a) (hb : Bt b) : Bt (mu a b) := by
  have h := mb ha.1 ha.2 hb.1 hb.2
  unfold Bt mu
  omega
theorem mu_le {a b : Int} (ha : Bt a) (hb : Bt b) : mu a b ≤ a := by
  have h := mb ha.1 (Int.le_refl a) hb.1 hb.2
  unfold mu
  unfold Bt at ha
  omega
theorem mu_comm (a b : Int) : mu a b = mu b a := by unfold mu; rw [Int.mul_comm]
theorem un_b {a b : Int} (ha : Bt a) (hb : Bt b) : Bt (un a b) := by
  have h1 := mu_le ha hb
  have h2 := mu_le hb ha
  rw [mu_comm] at h2
  have h3 : 0 ≤ (255 - a) * (255 - b) := Int.mul_nonneg (by unfold Bt at ha; omega) (by unfold Bt at hb; omega)
  have h4 : (255 - a) * (255 - b) = 65025 - 255 * a - 255 * b + a * b := by
    rw [Int.sub_mul, Int.mul_sub, Int.mul_sub, Int.mul_comm 255 b]
    have := Int.mul_comm a 255
    omega
  unfold Bt at *
  unfold un
  unfold mu at *
  omega
theorem e_mu {a b : Int} (ha : Bt a) (hb : Bt b) : ((iI a * iI b) + 127) / 255 = iI (mu a b) := by
  have h := mb ha.1 ha.2 hb.1 hb.2
  show (iI a * iI b + iI 127) / iI 255 = _
  rw [← Int32.ofInt_mul, ← Int32.ofInt_add, iI_dv (by omega) (by omega) (by omega) (by omega)]
  rfl
theorem q_X2_mul {a b : Int} {P : Int32 → Prop} (ha : Bt a) (hb : Bt b) (h : P (iI (mu a b))) : wp_X2_mul (iI a) (iI b) P := by
  unfold wp_X2_mul
  rw [e_mu ha hb]
  exact h
theorem q_X4_mul {a b : Int} {P : Int32 → Prop} (ha : Bt a) (hb : Bt b) (h : P (iI (mu a b))) : wp_X4_mul (iI a) (iI b) P := by
  unfold wp_X4_mul
  rw [e_mu ha hb]
  exact h
theorem q_X2_union {a b : Int} {P : Int32 → Prop} (ha : Bt a) (hb : Bt b) (h : P (iI (un a b))) : wp_X2_union (iI a) (iI b) P := by
  unfold wp_X2_union
  refine q_X2_mul ha hb ?_
  rw [← Int32.ofInt_add, ← Int32.ofInt_sub]
  exact h
