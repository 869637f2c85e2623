/-! the relation between the class's state and the model's -/
def pt (w i : Nat) : Nat := 12 * (i / w) + i % w
abbrev Vp (w h p : Nat) : Prop := p % 12 < w ∧ p / 12 < h
theorem pt_yx {w x y : Nat} (h : x < w) : pt w (y * w + x) = 12 * y + x := by
  unfold pt
  rw [Nat.add_comm (y * w) x, Nat.add_mul_div_right _ _ (by omega), Nat.add_mul_mod_self_right, Nat.div_eq_of_lt h, Nat.mod_eq_of_lt h, Nat.zero_add]
theorem yx_lt {w h n x y : Nat} (en : w * h = n) (hx : x < w) (hy : y < h) : y * w + x < n := by
  have h1 : (y + 1) * w ≤ h * w := Nat.mul_le_mul_right w hy
  rw [Nat.succ_mul] at h1
  rw [Nat.mul_comm] at en
  omega
theorem i_yx {w h n i : Nat} (hw : 1 ≤ w) (en : w * h = n) (hi : i < n) : ∃ x y, x < w ∧ y < h ∧ i = y * w + x := by
  refine ⟨i % w, i / w, Nat.mod_lt _ hw, ?_, ?_⟩
  · exact Nat.div_lt_of_lt_mul (by omega)
  · have := Nat.div_add_mod i w
    rw [Nat.mul_comm] at this
    omega
theorem pt_V {w h n i : Nat} (hw : 1 ≤ w) (hw2 : w ≤ 12) (hh : h ≤ 12) (en : w * h = n) (hi : i < n) : pt w i < 144 ∧ Vp w h (pt w i) := by
  obtain ⟨x, y, hx, hy, rfl⟩ := i_yx hw en hi
  rw [pt_yx hx]
  unfold Vp
  omega
theorem pt_inj {w h n i j : Nat} (hw : 1 ≤ w) (hw2 : w ≤ 12) (en : w * h = n) (hi : i < n) (hj : j < n) (e : pt w i = pt w j) : i = j := by
  obtain ⟨x, y, hx, hy, rfl⟩ := i_yx hw en hi
  obtain ⟨x', y', hx', hy', rfl⟩ := i_yx hw en hj
  rw [pt_yx hx, pt_yx hx'] at e
  have : x = x' := by omega
  have : y = y' := by omega
  subst x' y'
  rfl
theorem pt_succ {w h n i : Nat} (hw : 1 ≤ w) (hw2 : w ≤ 12) (en : w * h = n) (hi : i < n) : pt w i + 1 ≤ pt w (i + 1) ∧ ∀ p, pt w i + 1 ≤ p → p < pt w (i + 1) → ¬ Vp w h p := by
  obtain ⟨x, y, hx, hy, rfl⟩ := i_yx hw en hi
  by_cases q : x + 1 < w
  · rw [Nat.add_assoc, pt_yx q, pt_yx hx]
    exact ⟨by omega, fun p h1 h2 => by omega⟩
  · have e : y * w + x + 1 = (y + 1) * w + 0 := by rw [Nat.succ_mul]; omega
    rw [e, pt_yx hx, pt_yx (x := 0) (by omega)]
    refine ⟨by omega, fun p h1 h2 => ?_⟩
    unfold Vp
    omega
theorem pt_n {w h n : Nat} (hw : 1 ≤ w) (en : w * h = n) : pt w n = 12 * h := by
  have e : n = h * w + 0 := by rw [Nat.mul_comm] at en; omega
  rw [e, pt_yx (by omega)]
  rfl
theorem pt_0 (w : Nat) : pt w 0 = 0 := by unfold pt; rw [Nat.zero_div, Nat.zero_mod]
theorem V_pt {w h n p : Nat} (en : w * h = n) (hV : Vp w h p) : ∃ i, i < n ∧ pt w i = p := by
  unfold Vp at hV
  refine ⟨p / 12 * w + p % 12, yx_lt en hV.1 hV.2, ?_⟩
  rw [pt_yx hV.1]
  omega
def SYZ (x : Int32) (sy : Nat → Bool) : Prop := ∃ z : Nat, z < 8 ∧ x = nI z ∧ ∀ k, k < 3 → sy k = z.testBit k
theorem SYZ.sy {x : Int32} {sy : Nat → Bool} (h : SYZ x sy) : SY x sy := by
  obtain ⟨z, hz, e, hs⟩ := h
  have key : ∀ z, z < 8 → ∀ k, k < 3 → (((nI z >>> (nI k &&& 31)) &&& 1) = 1 ↔ z.testBit k = true) := by decide
  intro k hk
  rw [e, hs k hk]
  exact key z hz k hk
theorem SYZ.up {x : Int32} {sy : Nat → Bool} {k : Nat} (h : SYZ x sy) (hk : k < 3) : SYZ (x ||| (1 <<< (nI k &&& 31))) (fun j => if j = k then true else sy j) ∧ SYZ (x &&& ((1 <<< (nI k &&& 31)) ^^^ (-1))) (fun j => if j = k then false else sy j) := by
  obtain ⟨z, hz, e, hs⟩ := h
  have key : ∀ z, z < 8 → ∀ k, k < 3 → (nI z ||| (1 <<< (nI k &&& 31)) = nI (z ||| 2 ^ k) ∧ z ||| 2 ^ k < 8 ∧ nI z &&& ((1 <<< (nI k &&& 31)) ^^^ (-1)) = nI (z &&& (7 ^^^ 2 ^ k)) ∧ z &&& (7 ^^^ 2 ^ k) < 8 ∧ ∀ j, j < 3 → ((z ||| 2 ^ k).testBit j = if j = k then true else z.testBit j) ∧ ((z &&& (7 ^^^ 2 ^ k)).testBit j = if j = k then false else z.testBit j)) := by decide
  obtain ⟨k1, k2, k3, k4, k5⟩ := key z hz k hk
  refine ⟨⟨_, k2, by rw [e]; exact k1, fun j hj => ?_⟩, ⟨_, k4, by rw [e]; exact k3, fun j hj => ?_⟩⟩
  · show (if j = k then true else sy j) = _
    rw [(k5 j hj).1, hs j hj]
  · show (if j = k then false else sy j) = _
    rw [(k5 j hj).2, hs j hj]
def INV (w h n d rg bd : Nat) (cel : Nat → Nat → Cl) (mB cov : Nat → Int) (t : F3) : Prop := (1 ≤ w ∧ w ≤ 12 ∧ 1 ≤ h ∧ h ≤ 12 ∧ w * h = n ∧ n ≤ 144) ∧ (1 ≤ rg ∧ rg ≤ d ∧ d ≤ 40 ∧ rg ≤ 6 ∧ 1 ≤ bd ∧ bd ≤ 6) ∧ (∀ g p, CB (cel g p)) ∧ (∀ p, Bt (mB p)) ∧ (∀ p, Bt (cov p)) ∧ B3 t
def RC0 (s : Nat → Int32) (w h n d rg bd : Nat) (mk : Bool) (t : F3) (sy : Nat → Bool) (md : Int32) : Prop := s 0 = nI w ∧ s 1 = nI h ∧ s 2 = nI n ∧ (s 3 = 0 ↔ mk = false) ∧ s 4 = iI (pkF t) ∧ SYZ (s 5) sy ∧ s 6 = nI bd ∧ s 7 = nI d ∧ s 8 = nI rg ∧ s 9 = md
def RLy (uL : Nat → Nat → Nat → Int32) (w n rg : Nat) (cel : Nat → Nat → Cl) (kn : Nat → Bool) : Prop := (∀ g, g < 6 → uL g 0 0 = nI n) ∧ ∀ g, g < rg → (uL g 0 1 = 0 ↔ kn g = false) ∧ ∀ i, i < n → CC (uL g) i (cel g (pt w i))
def RC (ua : Nat → Nat → Int32) (uL : Nat → Nat → Nat → Int32) (w h n d rg bd : Nat) (cel : Nat → Nat → Cl) (kn : Nat → Bool) (mk : Bool) (mB cov : Nat → Int) (t : F3) (sy : Nat → Bool) (md : Int32) : Prop := RC0 (ua 0) w h n d rg bd mk t sy md ∧ (∀ i, i < n → ua 1 i = iI (cov (pt w i))) ∧ (∀ i, i < n → ua 2 i = iI (mB (pt w i))) ∧ RLy uL w n rg cel kn
def RM0 (s : Nat → Int32) (w h d rg bd : Nat) (mk : Bool) (md : Int32) : Prop := s 1 = nI w ∧ s 2 = nI h ∧ s 3 = nI bd ∧ s 4 = nI d ∧ s 5 = nI rg ∧ (s 6 = 0 ↔ mk = false) ∧ s 7 = md
def RPl (s : Nat → Int32) (d rg : Nat) : Prop := ∀ e, e ≤ d → s e = if e ≤ rg then nI (e - 1) else -1
def RG (um : Nat → Nat → Int32) (rg : Nat) (cel : Nat → Nat → Cl) (kn : Nat → Bool) : Prop := ∀ g, g < rg → (um 2 g = 0 ↔ kn g = false) ∧ ∀ p, p < 144 → CM um (144 * g + p) (cel g p)
def RMs (um : Nat → Nat → Int32) (w h d rg bd : Nat) (mk : Bool) (mB cov : Nat → Int) (t : F3) (sy : Nat → Bool) (md : Int32) : Prop := RM0 (um 0) w h d rg bd mk md ∧ RPl (um 1) d rg ∧ (∀ p, p < 144 → um 8 p = iI (mB p)) ∧ (∀ p, p < 144 → um 9 p = iI (cov p)) ∧ RF (um 10) t ∧ ∀ k, k < 3 → (um 11 k = 0 ↔ sy k = false)
def RR (w h n : Nat) (ua : Nat → Nat → Int32) (uL : Nat → Nat → Nat → Int32) (um : Nat → Nat → Int32) : Prop := ∃ d rg bd cel kn mk mB cov t sy md, INV w h n d rg bd cel mB cov t ∧ RC ua uL w h n d rg bd cel kn mk mB cov t sy md ∧ RMs um w h d rg bd mk mB cov t sy md ∧ RG um rg cel kn
theorem CM.keep {um um' : Nat → Nat → Int32} {j : Nat} {c : Cl} (hc : CM um j c) (h3 : um' 3 = um 3) (h4 : um' 4 = um 4) (h5 : um' 5 = um 5) (h6 : um' 6 = um 6) (h7 : um' 7 = um 7) : CM um' j c := by
  unfold CM at *
  rw [h3, h4, h5, h6, h7]
  exact hc
theorem RG.keep {um um' : Nat → Nat → Int32} {rg : Nat} {cel : Nat → Nat → Cl} {kn : Nat → Bool} (h : RG um rg cel kn) (h2 : um' 2 = um 2) (h3 : um' 3 = um 3) (h4 : um' 4 = um 4) (h5 : um' 5 = um 5) (h6 : um' 6 = um 6) (h7 : um' 7 = um 7) : RG um' rg cel kn := fun g hg => by
  rw [h2]
  exact ⟨(h g hg).1, fun p hp => ((h g hg).2 p hp).keep h3 h4 h5 h6 h7⟩
theorem RM0.eq {s s' : Nat → Int32} {w h d rg bd : Nat} {mk : Bool} {md : Int32} (q : RM0 s w h d rg bd mk md) (e : ∀ j, j ≠ 0 → s' j = s j) : RM0 s' w h d rg bd mk md := by
  unfold RM0 at *
  rw [e 1 (by decide), e 2 (by decide), e 3 (by decide), e 4 (by decide), e 5 (by decide), e 6 (by decide), e 7 (by decide)]
  exact q
theorem RMs.keep {um um' : Nat → Nat → Int32} {w h d rg bd : Nat} {mk : Bool} {mB cov : Nat → Int} {t : F3} {sy : Nat → Bool} {md : Int32} (q : RMs um w h d rg bd mk mB cov t sy md) (h0 : ∀ j, j ≠ 0 → um' 0 j = um 0 j) (h1 : um' 1 = um 1) (h8 : um' 8 = um 8) (h9 : um' 9 = um 9) (h10 : um' 10 = um 10) (h11 : um' 11 = um 11) : RMs um' w h d rg bd mk mB cov t sy md := by
  obtain ⟨q0, q1, q8, q9, q10, q11⟩ := q
  refine ⟨q0.eq h0, ?_, ?_, ?_, ?_, ?_⟩
  · rw [h1]; exact q1
  · rw [h8]; exact q8
  · rw [h9]; exact q9
  · rw [h10]; exact q10
  · rw [h11]; exact q11
theorem RMs.thr {um : Nat → Nat → Int32} {w h d rg bd : Nat} {mk : Bool} {mB cov : Nat → Int} {t : F3} {sy : Nat → Bool} {md : Int32} {v : Int32} (q : RMs um w h d rg bd mk mB cov t sy md) : RMs (st um 0 0 v) w h d rg bd mk mB cov t sy md := q.keep (fun j hj => st_el hj) (st_row (by decide)) (st_row (by decide)) (st_row (by decide)) (st_row (by decide)) (st_row (by decide))
theorem RG.row {um : Nat → Nat → Int32} {rg : Nat} {cel : Nat → Nat → Cl} {kn : Nat → Bool} {r j : Nat} {v : Int32} (h : RG um rg cel kn) (h2 : r ≠ 2) (h3 : r ≠ 3) (h4 : r ≠ 4) (h5 : r ≠ 5) (h6 : r ≠ 6) (h7 : r ≠ 7) : RG (st um r j v) rg cel kn := h.keep (st_row (Ne.symm h2)) (st_row (Ne.symm h3)) (st_row (Ne.symm h4)) (st_row (Ne.symm h5)) (st_row (Ne.symm h6)) (st_row (Ne.symm h7))
theorem RG.thr {um : Nat → Nat → Int32} {rg : Nat} {cel : Nat → Nat → Cl} {kn : Nat → Bool} {j : Nat} {v : Int32} (h : RG um rg cel kn) : RG (st um 0 j v) rg cel kn := h.row (by decide) (by decide) (by decide) (by decide) (by decide) (by decide)
theorem o_0 {uo : Nat → Int64} {v : Int64} : vp_updL uo 0 v 0 = v := by unfold vp_updL; rw [if_pos rfl]
/-! loops -/
theorem upN {σ : Type} (W : Nat → σ → Int32 → Prop) (I : Nat → σ → Prop) (n : Nat) (hs : ∀ N i s, i < n → I i s → (∀ s', I (i + 1) s' → W N s' (nI (i + 1))) → W (N + 1) s (nI i)) (he : ∀ N s, I n s → W (N + 1) s (nI n)) : ∀ (k i : Nat) (s : σ), i + k = n → I i s → W (k + 1) s (nI i) := by
  intro k
  induction k with
  | zero =>
    intro i s e hi
    have : i = n := by omega
    subst this
    exact he 0 s hi
  | succ k ih =>
    intro i s e hi
    exact hs (k + 1) i s (by omega) hi (fun s' h' => ih (i + 1) s' (by omega) h')
theorem upN0 {σ : Type} (W : Nat → σ → Int32 → Prop) (I : Nat → σ → Prop) (n : Nat) (s : σ) (h0 : I 0 s) (hs : ∀ N i s, i < n → I i s → (∀ s', I (i + 1) s' → W N s' (nI (i + 1))) → W (N + 1) s (nI i)) (he : ∀ N s, I n s → W (N + 1) s (nI n)) : ∃ N, W N s 0 := ⟨n + 1, upN W I n hs he n 0 s (by omega) h0⟩
