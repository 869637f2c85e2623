/-! all modes of bytes, on both sides -/
theorem bt {c X Y : Prop} (h : c) (x : X) : (c → X) ∧ (¬ c → Y) := ⟨fun _ => x, fun n => absurd h n⟩
theorem bf {c X Y : Prop} (h : ¬ c) (y : Y) : (c → X) ∧ (¬ c → Y) := ⟨fun n => absurd n h, fun _ => y⟩
theorem nt {c X Y : Prop} (h : c) (x : X) : (¬ c → Y) ∧ (c → X) := ⟨fun n => absurd h n, fun _ => x⟩
theorem nf {c X Y : Prop} (h : ¬ c) (y : Y) : (¬ c → Y) ∧ (c → X) := ⟨fun _ => y, fun n => absurd n h⟩
theorem ilt {a b x y : Int} (ha : Sm a) (hb : Sm b) : (if iI a < iI b then iI x else iI y) = iI (if a < b then x else y) := by
  by_cases h : a < b
  · rw [if_pos h, if_pos ((iI_lt ha.1 ha.2 hb.1 hb.2).mpr h)]
  · rw [if_neg h, if_neg (fun q => h ((iI_lt ha.1 ha.2 hb.1 hb.2).mp q))]
theorem Bt.sm {a : Int} (h : Bt a) : Sm a := by unfold Bt at h; unfold Sm; omega
def sepS (m b s : Int) : Int := if m = 1 then mu b s else if m = 2 then un b s else if m = 3 then hdS s b else if m = 4 then (if s < b then s else b) else if m = 5 then (if b < s then s else b) else if m = 6 then dgS b s else if m = 7 then bnS b s else if m = 8 then hdS b s else if m = 9 then sfS b s else if m = 10 then (if b < s then s else b) - (if s < b then s else b) else if m = 11 then (if 0 < b + s - 2 * mu b s then b + s - 2 * mu b s else 0) else s
theorem sepS_b {m b s : Int} (hb : Bt b) (hs : Bt s) : Bt (sepS m b s) := by
  have h1 := mu_b hb hs
  have h2 := un_b hb hs
  have hb' := hb
  have hs' := hs
  unfold Bt at hb' hs'
  unfold sepS
  by_cases e : m = 1
  · rw [if_pos e]; exact h1
  rw [if_neg e]
  by_cases e : m = 2
  · rw [if_pos e]; exact h2
  rw [if_neg e]
  by_cases e : m = 3
  · rw [if_pos e]; exact hdS_b hs hb
  rw [if_neg e]
  by_cases e : m = 4
  · rw [if_pos e]
    by_cases q : s < b
    · rw [if_pos q]; exact hs
    · rw [if_neg q]; exact hb
  rw [if_neg e]
  by_cases e : m = 5
  · rw [if_pos e]
    by_cases q : b < s
    · rw [if_pos q]; exact hs
    · rw [if_neg q]; exact hb
  rw [if_neg e]
  by_cases e : m = 6
  · rw [if_pos e]; exact dgS_b hb hs
  rw [if_neg e]
  by_cases e : m = 7
  · rw [if_pos e]; exact bnS_b hb hs
  rw [if_neg e]
  by_cases e : m = 8
  · rw [if_pos e]; exact hdS_b hb hs
  rw [if_neg e]
  by_cases e : m = 9
  · rw [if_pos e]; exact sfS_b hb hs
  rw [if_neg e]
  by_cases e : m = 10
  · rw [if_pos e]
    by_cases q : b < s
    · rw [if_pos q, if_neg (by omega)]; unfold Bt; omega
    · rw [if_neg q]
      by_cases q2 : s < b
      · rw [if_pos q2]; unfold Bt; omega
      · rw [if_neg q2]; unfold Bt; omega
  rw [if_neg e]
  by_cases e : m = 11
  · rw [if_pos e]
    by_cases q : 0 < b + s - 2 * mu b s
    · rw [if_pos q]; unfold un at h2; unfold Bt at *; omega
    · rw [if_neg q]; unfold Bt; omega
  rw [if_neg e]
  exact hs
theorem q_X1_ofBytes {m b s : Int} {P : Int32 → Prop} (hm : Sm m) (hb : Bt b) (hs : Bt s) (h : P (iI (sepS m b s))) : wp_X1_ofBytes (iI m) (iI b) (iI s) P := by
  unfold wp_X1_ofBytes
  unfold sepS at h
  refine w_eq (b := 1) hm (by unfold Sm; omega) (fun e => ?_) (fun e => ?_)
  · rw [if_pos e] at h; exact q_X2_mul hb hs h
  rw [if_neg e] at h
  refine w_eq (b := 2) hm (by unfold Sm; omega) (fun e => ?_) (fun e => ?_)
  · rw [if_pos e] at h; exact q_X2_union hb hs h
  rw [if_neg e] at h
  refine w_eq (b := 3) hm (by unfold Sm; omega) (fun e => ?_) (fun e => ?_)
  · rw [if_pos e] at h; exact q_X1_hard hs hb h
  rw [if_neg e] at h
  refine w_eq (b := 4) hm (by unfold Sm; omega) (fun e => ?_) (fun e => ?_)
  · rw [if_pos e] at h; rw [ilt hs.sm hb.sm]; exact h
  rw [if_neg e] at h
  refine w_eq (b := 5) hm (by unfold Sm; omega) (fun e => ?_) (fun e => ?_)
  · rw [if_pos e] at h; rw [ilt hb.sm hs.sm]; exact h
  rw [if_neg e] at h
  refine w_eq (b := 6) hm (by unfold Sm; omega) (fun e => ?_) (fun e => ?_)
  · rw [if_pos e] at h; exact q_X1_dodge hb hs h
  rw [if_neg e] at h
  refine w_eq (b := 7) hm (by unfold Sm; omega) (fun e => ?_) (fun e => ?_)
  · rw [if_pos e] at h; exact q_X1_burn hb hs h
  rw [if_neg e] at h
  refine w_eq (b := 8) hm (by unfold Sm; omega) (fun e => ?_) (fun e => ?_)
  · rw [if_pos e] at h; exact q_X1_hard hb hs h
  rw [if_neg e] at h
  refine w_eq (b := 9) hm (by unfold Sm; omega) (fun e => ?_) (fun e => ?_)
  · rw [if_pos e] at h; exact q_X1_soft hb hs h
  rw [if_neg e] at h
  refine w_eq (b := 10) hm (by unfold Sm; omega) (fun e => ?_) (fun e => ?_)
  · rw [if_pos e] at h; rw [ilt hb.sm hs.sm, ilt hs.sm hb.sm, isub]; exact h
  rw [if_neg e] at h
  refine w_eq (b := 11) hm (by unfold Sm; omega) (fun e => ?_) (fun e => ?_)
  · rw [if_pos e] at h
    refine q_X2_mul hb hs ?_
    have h1 := mu_b hb hs
    unfold Bt at hb hs h1
    rw [e_2s, iadd, isub]
    have := ilt (a := 0) (b := b + s - 2 * mu b s) (x := b + s - 2 * mu b s) (y := 0) (by unfold Sm; omega) (by unfold Sm; omega)
    show P (if iI 0 < iI (b + s - 2 * mu b s) then iI (b + s - 2 * mu b s) else iI 0)
    rw [this]
    exact h
  rw [if_neg e] at h
  exact h
theorem q_X4_ofBytes {m b s : Int} {P : Int32 → Prop} (hm : 0 ≤ m) (hm2 : m ≤ 11) (hb : Bt b) (hs : Bt s) (h : P (iI (sepS m b s))) : wp_X4_ofBytes (iI m) (iI b) (iI s) P := by
  have h1 := mu_b hb hs
  have hb' := hb
  have hs' := hs
  unfold Bt at hb' hs' h1
  unfold wp_X4_ofBytes
  unfold sepS at h
  rcases (show m = 0 ∨ m = 1 ∨ m = 2 ∨ m = 3 ∨ m = 4 ∨ m = 5 ∨ m = 6 ∨ m = 7 ∨ m = 8 ∨ m = 9 ∨ m = 10 ∨ m = 11 by omega) with rfl | rfl | rfl | rfl | rfl | rfl | rfl | rfl | rfl | rfl | rfl | rfl
  · exact bf (by decide) (nt (by decide) h)
  · exact bf (by decide) (nf (by decide) (nt (by decide) (q_X4_mul hb hs h)))
  · refine bf (by decide) (nf (by decide) (nf (by decide) (nt (by decide) (q_X4_mul hb hs ?_))))
    rw [iadd, isub]; exact h
  · exact bf (by decide) (nf (by decide) (nf (by decide) (nf (by decide) (q_X4_hard hs hb h))))
  · refine bt (by decide) (bf (by decide) (nt (by decide) (w_le hs.sm hb.sm (fun e => ?_) (fun e => ?_))))
    · have h : P (iI (if s < b then s else b)) := h
      by_cases q : s < b
      · rw [if_pos q] at h; exact h
      · rw [if_neg q, show b = s by omega] at h; exact h
    · have h : P (iI (if s < b then s else b)) := h
      rw [if_neg (by omega)] at h; exact h
  · refine bt (by decide) (bf (by decide) (nf (by decide) (nt (by decide) (w_le hb.sm hs.sm (fun e => ?_) (fun e => ?_)))))
    · have h : P (iI (if b < s then s else b)) := h
      by_cases q : b < s
      · rw [if_pos q] at h; exact h
      · rw [if_neg q, show b = s by omega] at h; exact h
    · have h : P (iI (if b < s then s else b)) := h
      rw [if_neg (by omega)] at h; exact h
  · exact bt (by decide) (bf (by decide) (nf (by decide) (nf (by decide) (nt (by decide) (q_X4_dodge hb hs h)))))
  · exact bt (by decide) (bf (by decide) (nf (by decide) (nf (by decide) (nf (by decide) (q_X4_burn hb hs h)))))
  · exact bt (by decide) (bt (by decide) (bf (by decide) (nt (by decide) (q_X4_hard hb hs h))))
  · exact bt (by decide) (bt (by decide) (bf (by decide) (nf (by decide) (q_X4_soft hb hs h))))
  · refine bt (by decide) (bt (by decide) (bt (by decide) (q_X4_mul hb hs (fun v2 _ => nt (by decide) ?_))))
    have h : P (iI ((if b < s then s else b) - (if s < b then s else b))) := h
    rw [isub, isub]
    refine w_le hb.sm hs.sm (fun e => ?_) (fun e => ?_)
    · by_cases q : b < s
      · rw [if_pos q, if_neg (by omega)] at h; exact h
      · rw [if_neg q, if_neg (by omega)] at h
        rw [show s - b = b - b by omega]; exact h
    · rw [if_neg (by omega), if_pos (by omega)] at h; exact h
  · refine bt (by decide) (bt (by decide) (bt (by decide) (q_X4_mul hb hs (fun v2 e2 => nf (by decide) ?_))))
    have h : P (iI (if 0 < b + s - 2 * mu b s then b + s - 2 * mu b s else 0)) := h
    rw [e_2s, iadd, isub] at e2
    subst e2
    refine w_le (a := 0) (by unfold Sm; omega) (by unfold Sm; omega) (fun e => ?_) (fun e => ?_)
    · by_cases q : 0 < b + s - 2 * mu b s
      · rw [if_pos q] at h; exact h
      · rw [if_neg q] at h; rw [show b + s - 2 * mu b s = 0 by omega]; exact h
    · rw [if_neg (by omega)] at h; exact h
/-! colours in one int -/
def pkc (r g b : Int) : Int := r + 256 * g + 65536 * b
theorem iI_nn {z : Int} (h : 0 ≤ z) : iI z = nI z.toNat := by rw [iI_n, Int.toNat_of_nonneg h]
theorem nI_or (a b : Nat) : nI a ||| nI b = nI (a ||| b) := by
  apply Int32.toBitVec.inj
  show BitVec.ofNat 32 a ||| BitVec.ofNat 32 b = BitVec.ofNat 32 (a ||| b)
  apply BitVec.eq_of_toNat_eq
  simp [BitVec.toNat_or, Nat.or_mod_two_pow]
theorem or_add {a b i : Nat} (h : b < 2 ^ i) : b ||| a * 2 ^ i = b + a * 2 ^ i := by
  have := Nat.shiftLeft_add_eq_or_of_lt h a
  rw [Nat.shiftLeft_eq] at this
  rw [Nat.or_comm, ← this, Nat.add_comm]
theorem e_pack {r g b : Int} (hr : Bt r) (hg : Bt g) (hb : Bt b) : (iI r ||| (iI g <<< ((8 : Int32) &&& 31))) ||| (iI b <<< ((16 : Int32) &&& 31)) = iI (pkc r g b) := by
  unfold Bt at hr hg hb
  rw [iI_nn hr.1, iI_nn hg.1, iI_nn hb.1, pk_shlN _ 8 (by decide) (by omega), pk_shlN _ 16 (by decide) (by omega), nI_or, nI_or, or_add (i := 8) (by omega), or_add (i := 16) (by omega), iI_n]
  unfold pkc
  congr 1
  omega
theorem q_X2_packed {r g b : Int} {P : Int32 → Prop} (hr : Bt r) (hg : Bt g) (hb : Bt b) (h : P (iI (pkc r g b))) : wp_X2_packed (iI r) (iI g) (iI b) P := by
  unfold wp_X2_packed
  rw [e_pack hr hg hb]
  exact h
theorem pkc_b {r g b : Int} (hr : Bt r) (hg : Bt g) (hb : Bt b) : 0 ≤ pkc r g b ∧ pkc r g b < 16777216 := by
  unfold Bt at *
  unfold pkc
  omega
theorem e_band {z : Int} (h0 : 0 ≤ z) (h1 : z < 16777216) {s : Int32} (k : Nat) (hs : ((s &&& 31).toBitVec.smod 32).toNat = k) : (iI z >>> (s &&& 31)) &&& 255 = iI (z / 2 ^ k % 256) := by
  rw [iI_nn h0, pk_shrN (by omega) _ k hs, pk_andN (by have := Nat.div_le_self z.toNat (2 ^ k); omega) 8 (by decide), iI_n]
  congr 1
  rw [Int.natCast_emod, Int.natCast_ediv, Int.toNat_of_nonneg h0]
  simp
theorem q_band0 {r g b : Int} {P : Int32 → Prop} (hr : Bt r) (hg : Bt g) (hb : Bt b) (h : P (iI r)) : wp_X2_bandOf (iI (pkc r g b)) 0 P := by
  have hp := pkc_b hr hg hb
  unfold wp_X2_bandOf
  rw [show (8 : Int32) * 0 = 0 from by decide, e_band hp.1 hp.2 0 (by decide)]
  unfold Bt at *
  rw [show pkc r g b / 2 ^ 0 % 256 = r by unfold pkc; omega]
  exact h
theorem q_band1 {r g b : Int} {P : Int32 → Prop} (hr : Bt r) (hg : Bt g) (hb : Bt b) (h : P (iI g)) : wp_X2_bandOf (iI (pkc r g b)) 1 P := by
  have hp := pkc_b hr hg hb
  unfold wp_X2_bandOf
  rw [show (8 : Int32) * 1 = 8 from by decide, e_band hp.1 hp.2 8 (by decide)]
  unfold Bt at *
  rw [show pkc r g b / 2 ^ 8 % 256 = g by unfold pkc; omega]
  exact h
theorem q_band2 {r g b : Int} {P : Int32 → Prop} (hr : Bt r) (hg : Bt g) (hb : Bt b) (h : P (iI b)) : wp_X2_bandOf (iI (pkc r g b)) 2 P := by
  have hp := pkc_b hr hg hb
  unfold wp_X2_bandOf
  rw [show (8 : Int32) * 2 = 16 from by decide, e_band hp.1 hp.2 16 (by decide)]
  unfold Bt at *
  rw [show pkc r g b / 2 ^ 16 % 256 = b by unfold pkc; omega]
  exact h
