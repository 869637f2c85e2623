/-! three bands at once -/
theorem st_get (a : Nat → Nat → Int32) (k j : Nat) (v : Int32) (r i : Nat) : st a k j v r i = if r = k ∧ i = j then v else a r i := by
  unfold st va_up upd
  by_cases h : r = k
  · subst h
    by_cases h2 : i = j
    · rw [if_pos rfl, if_pos h2, if_pos ⟨rfl, h2⟩]
    · rw [if_pos rfl, if_neg h2, if_neg (fun q => h2 q.2)]
  · rw [if_neg h, if_neg (fun q => h q.1)]
theorem st_row {a : Nat → Nat → Int32} {k j : Nat} {v : Int32} {r : Nat} (h : r ≠ k) : st a k j v r = a r := by
  funext i
  rw [st_get, if_neg (fun q => h q.1)]
theorem st_el {a : Nat → Nat → Int32} {k j : Nat} {v : Int32} {i : Nat} (h : i ≠ j) : st a k j v k i = a k i := by rw [st_get, if_neg (fun q => h q.2)]
theorem st_at {a : Nat → Nat → Int32} {k j : Nat} {v : Int32} : st a k j v k j = v := by rw [st_get, if_pos ⟨rfl, rfl⟩]
def s3 (um : Nat → Nat → Int32) (R o : Nat) (g : Nat → Int32) : Nat → Nat → Int32 := fun r j => if r = R ∧ o ≤ j ∧ j < o + 3 then g (j - o) else um r j
theorem s3_row {um : Nat → Nat → Int32} {R o : Nat} {g : Nat → Int32} {r : Nat} (h : r ≠ R) : s3 um R o g r = um r := by
  funext j
  unfold s3
  rw [if_neg (fun q => h q.1)]
theorem s3_el {um : Nat → Nat → Int32} {R o : Nat} {g : Nat → Int32} {j : Nat} (h : j < o ∨ o + 3 ≤ j) : s3 um R o g R j = um R j := by
  unfold s3
  rw [if_neg (fun q => by omega)]
theorem s3_at {um : Nat → Nat → Int32} {R o : Nat} {g : Nat → Int32} {k : Nat} (h : k < 3) : s3 um R o g R (o + k) = g k := by
  unfold s3
  rw [if_pos ⟨rfl, by omega, by omega⟩, Nat.add_sub_cancel_left]
theorem three {W : Nat → (Nat → Nat → Int32) → Int32 → Prop} (R o : Nat) {um : Nat → Nat → Int32} (g : Nat → Int32) (hs : ∀ N k um', k < 3 → (∀ r, r ≠ R → um' r = um r) → um' R (o + k) = um R (o + k) → W N (st um' R (o + k) (g k)) (nI (k + 1)) → W (N + 1) um' (nI k)) (he : W 1 (s3 um R o g) 3) : W 4 um 0 := by
  refine hs 3 0 um (by omega) (fun _ _ => rfl) rfl (hs 2 1 _ (by omega) (fun r h => st_row h) (st_el (by omega)) (hs 1 2 _ (by omega) (fun r h => by rw [st_row h, st_row h]) (by rw [st_el (by omega), st_el (by omega)]) ?_))
  have e : st (st (st um R (o + 0) (g 0)) R (o + 1) (g 1)) R (o + 2) (g 2) = s3 um R o g := by
    funext r j
    unfold s3
    by_cases h : r = R
    · subst h
      by_cases h2 : j = o + 2
      · rw [if_pos ⟨rfl, by omega, by omega⟩, h2, st_at, Nat.add_sub_cancel_left]
      · rw [st_el h2]
        by_cases h1 : j = o + 1
        · rw [if_pos ⟨rfl, by omega, by omega⟩, h1, st_at, Nat.add_sub_cancel_left]
        · rw [st_el h1]
          by_cases h0 : j = o + 0
          · rw [if_pos ⟨rfl, by omega, by omega⟩, h0, st_at, Nat.add_sub_cancel_left]
          · rw [st_el h0, if_neg (fun q => by omega)]
    · rw [st_row h, st_row h, st_row h, if_neg (fun q => h q.1)]
  rw [e]
  exact he
theorem i3n {k : Nat} (h : k < 3) : ¬ (3 : Int32) ≤ nI k := nI_ge (b := 3) h (by omega)
theorem vin {k N : Nat} (h : k < N) (hN : N < 2147483648) : vp_in (nI k) N := nI_in h hN
theorem ncl {k : Nat} (h : k < 2147483648) : (nI k).toNatClampNeg = k := nI_clamp h
theorem i3i {k : Nat} (h : k < 3) : vp_in (nI k) 3 := vin h (by omega)
theorem i3c {k : Nat} (h : k < 3) : (nI k).toNatClampNeg = k := ncl (by omega)
abbrev F3 := Nat → Int
def RF (g : Nat → Int32) (f : F3) : Prop := ∀ k, k < 3 → g k = iI (f k)
def B3 (f : F3) : Prop := ∀ k, k < 3 → Bt (f k)
theorem RF.r {g : Nat → Int32} {f : F3} (h : RF g f) : R3 g (f 0) (f 1) (f 2) := ⟨h 0 (by omega), h 1 (by omega), h 2 (by omega)⟩
theorem RF_s3 {um : Nat → Nat → Int32} {R : Nat} {g : Nat → Int32} {f : F3} (h : RF g f) : RF (s3 um R 0 g R) f := fun k hk => by
  have := s3_at (um := um) (R := R) (o := 0) (g := g) hk
  rw [Nat.zero_add] at this
  rw [this]; exact h k hk
def lmF (f : F3) : Int := lmS (f 0) (f 1) (f 2)
def mnF (f : F3) : Int := mn3 (f 0) (f 1) (f 2)
def mxF (f : F3) : Int := mx3 (f 0) (f 1) (f 2)
def pkF (f : F3) : Int := pkc (f 0) (f 1) (f 2)
def ssF (f : F3) (v : Int) : F3 := fun k => ssS (f k) (mnF f) v (mxF f - mnF f)
def adF (f : F3) (l : Int) : F3 := fun k => f k + (l - lmF f)
def slF (f : F3) (l : Int) : F3 := fun k => drS (adF f l k) l (mnF (adF f l)) (mxF (adF f l))
def blS (m : Int) (b t : F3) : F3 := if m = 12 then slF (ssF t (mxF b - mnF b)) (lmF b) else if m = 13 then slF (ssF b (mxF t - mnF t)) (lmF b) else if m = 14 then slF t (lmF b) else if m = 15 then slF b (lmF t) else fun k => sepS m (b k) (t k)
theorem mnF_s (f : F3) (k : Nat) (h : k < 3) : mnF f ≤ f k ∧ f k ≤ mxF f := by
  have h1 := mn3_s (f 0) (f 1) (f 2)
  have h2 := mx3_s (f 0) (f 1) (f 2)
  unfold mnF mxF
  rcases (show k = 0 ∨ k = 1 ∨ k = 2 by omega) with rfl | rfl | rfl <;> omega
theorem sat_b {f : F3} (h : B3 f) : Bt (mxF f - mnF f) := by
  have h1 := mn3_s (f 0) (f 1) (f 2)
  have h2 := mx3_s (f 0) (f 1) (f 2)
  have h3 := h 0 (by omega)
  have h4 := h 1 (by omega)
  have h5 := h 2 (by omega)
  unfold Bt at *
  unfold mnF mxF
  omega
theorem lmF_b {f : F3} (h : B3 f) : Bt (lmF f) := lmS_b (h 0 (by omega)) (h 1 (by omega)) (h 2 (by omega))
theorem ssF_b {f : F3} {v : Int} (hv : Bt v) : B3 (ssF f v) := fun k hk => by
  have := mnF_s f k hk
  exact ssS_b this.1 (by omega) hv
theorem slF_b (f : F3) (l : Int) : B3 (slF f l) := fun k _ => clS_b _
theorem blS_b {m : Int} {b t : F3} (hb : B3 b) (ht : B3 t) : B3 (blS m b t) := by
  unfold blS
  by_cases h : m = 12
  · rw [if_pos h]; exact slF_b _ _
  rw [if_neg h]
  by_cases h : m = 13
  · rw [if_pos h]; exact slF_b _ _
  rw [if_neg h]
  by_cases h : m = 14
  · rw [if_pos h]; exact slF_b _ _
  rw [if_neg h]
  by_cases h : m = 15
  · rw [if_pos h]; exact slF_b _ _
  rw [if_neg h]
  exact fun k hk => sepS_b (hb k hk) (ht k hk)
theorem adF_b {f : F3} {l : Int} (h : B3 f) (hl : Bt l) (k : Nat) (hk : k < 3) : -255 ≤ adF f l k ∧ adF f l k ≤ 510 := by
  have h1 := lmF_b h
  have h2 := h k hk
  unfold Bt at *
  unfold adF
  omega
theorem ad_lm (f : F3) (l : Int) : lmF (adF f l) = l := by
  have := lmS_add (f 0) (f 1) (f 2) (l - lmF f)
  unfold lmF at *
  unfold adF
  unfold lmF
  omega
theorem ad_mn {f : F3} {l : Int} (h : B3 f) (hl : Bt l) : -255 ≤ mnF (adF f l) ∧ mnF (adF f l) ≤ 510 ∧ -255 ≤ mxF (adF f l) ∧ mxF (adF f l) ≤ 510 := by
  have h1 := mn3_s (adF f l 0) (adF f l 1) (adF f l 2)
  have h2 := mx3_s (adF f l 0) (adF f l 1) (adF f l 2)
  have h3 := adF_b h hl 0 (by omega)
  have h4 := adF_b h hl 1 (by omega)
  have h5 := adF_b h hl 2 (by omega)
  unfold mnF mxF
  omega
/-! the class -/
theorem q_bandF {f : F3} {k : Nat} {P : Int32 → Prop} (hf : B3 f) (hk : k < 3) (h : P (iI (f k))) : wp_X2_bandOf (iI (pkF f)) (nI k) P := by
  rcases (show k = 0 ∨ k = 1 ∨ k = 2 by omega) with rfl | rfl | rfl
  · exact q_band0 (hf 0 (by omega)) (hf 1 (by omega)) (hf 2 (by omega)) h
  · exact q_band1 (hf 0 (by omega)) (hf 1 (by omega)) (hf 2 (by omega)) h
  · exact q_band2 (hf 0 (by omega)) (hf 1 (by omega)) (hf 2 (by omega)) h
theorem q_bF0 {f : F3} {P : Int32 → Prop} (hf : B3 f) (h : P (iI (f 0))) : wp_X2_bandOf (iI (pkF f)) 0 P := q_bandF (k := 0) hf (by omega) h
theorem q_bF1 {f : F3} {P : Int32 → Prop} (hf : B3 f) (h : P (iI (f 1))) : wp_X2_bandOf (iI (pkF f)) 1 P := q_bandF (k := 1) hf (by omega) h
theorem q_bF2 {f : F3} {P : Int32 → Prop} (hf : B3 f) (h : P (iI (f 2))) : wp_X2_bandOf (iI (pkF f)) 2 P := q_bandF (k := 2) hf (by omega) h
theorem q_packF {f : F3} {P : Int32 → Prop} (hf : B3 f) (h : P (iI (pkF f))) : wp_X2_packed (iI (f 0)) (iI (f 1)) (iI (f 2)) P := q_X2_packed (hf 0 (by omega)) (hf 1 (by omega)) (hf 2 (by omega)) h
theorem q_X1_lumOf {f : F3} {P : Int32 → Prop} (hf : B3 f) (h : P (iI (lmF f))) : wp_X1_lumOf (iI (pkF f)) P := by
  unfold wp_X1_lumOf
  exact q_bF0 hf (q_bF1 hf (q_bF2 hf (q_X2_lum (hf 0 (by omega)).md (hf 1 (by omega)).md (hf 2 (by omega)).md h)))
theorem q_X1_satOf {f : F3} {P : Int32 → Prop} (hf : B3 f) (h : P (iI (mxF f - mnF f))) : wp_X1_satOf (iI (pkF f)) P := by
  have h0 := (hf 0 (by omega)).sm
  have h1 := (hf 1 (by omega)).sm
  have h2 := (hf 2 (by omega)).sm
  unfold wp_X1_satOf
  refine q_bF0 hf (q_bF1 hf (q_bF2 hf (q_X1_mostOf h0 h1 h2 (q_X1_leastOf h0 h1 h2 ?_))))
  rw [isub]
  exact h
theorem e_ss {x n v s : Int} (h1 : n ≤ x) (h2 : x - n ≤ s) (hs : Bt s) (hv : Bt v) (h0 : 0 < s) : ((iI x - iI n) * iI v) / iI s = iI (ssS x n v s) := by
  unfold ssS
  rw [if_neg (by omega), isub, imul]
  have h3 := mb (a := x - n) (b := v) (x := s) (y := 255) (by omega) h2 hv.1 hv.2
  unfold Bt at hs
  exact iI_dv h3.1 (by omega) (by omega) (by omega)
theorem q_X1_withSat {f : F3} {v : Int} {P : Int32 → Prop} (hf : B3 f) (hv : Bt v) (h : P (iI (pkF (ssF f v)))) : wp_X1_withSat (iI (pkF f)) (iI v) P := by
  have h0 := (hf 0 (by omega)).sm
  have h1 := (hf 1 (by omega)).sm
  have h2 := (hf 2 (by omega)).sm
  have hs := sat_b hf
  have m0 := mnF_s f 0 (by omega)
  have m1 := mnF_s f 1 (by omega)
  have m2 := mnF_s f 2 (by omega)
  have hs' := hs
  unfold Bt at hs'
  unfold wp_X1_withSat
  refine q_X1_satOf hf (w_lt (a := 0) (by unfold Sm; omega) (by unfold Sm; omega) (fun q => ?_) (fun q => ?_))
  · refine q_bF0 hf (q_bF1 hf (q_bF2 hf (q_X1_leastOf h0 h1 h2 ?_)))
    have nz := w_nz (a := mxF f - mnF f) (by unfold Sm; omega) (by omega)
    refine ⟨nz, nz, nz, ?_⟩
    show wp_X2_packed (((iI (f 0) - iI (mnF f)) * iI v) / iI (mxF f - mnF f)) (((iI (f 1) - iI (mnF f)) * iI v) / iI (mxF f - mnF f)) (((iI (f 2) - iI (mnF f)) * iI v) / iI (mxF f - mnF f)) _
    rw [e_ss m0.1 (by omega) hs hv q, e_ss m1.1 (by omega) hs hv q, e_ss m2.1 (by omega) hs hv q]
    exact q_packF (f := ssF f v) (ssF_b hv) h
  · have e : pkF (ssF f v) = 0 := by
      unfold pkF ssF ssS pkc
      rw [if_pos (by omega), if_pos (by omega), if_pos (by omega)]
      rfl
    rw [e] at h
    exact h
theorem q_X1_withLum {f : F3} {l : Int} {P : Int32 → Prop} (hf : B3 f) (hl : Bt l) (h : P (iI (pkF (slF f l)))) : wp_X1_withLum (iI (pkF f)) (iI l) P := by
  have a0 := adF_b hf hl 0 (by omega)
  have a1 := adF_b hf hl 1 (by omega)
  have a2 := adF_b hf hl 2 (by omega)
  have am := ad_mn hf hl
  unfold wp_X1_withLum
  refine q_X1_lumOf hf (fun v2 e2 => q_bF0 hf (fun v4 e4 => q_bF1 hf (fun v6 e6 => q_bF2 hf (fun v8 e8 => ?_))))
  rw [isub] at e2
  subst e2
  rw [iadd] at e4 e6 e8
  have e4 : v4 = iI (adF f l 0) := e4
  have e6 : v6 = iI (adF f l 1) := e6
  have e8 : v8 = iI (adF f l 2) := e8
  subst e4 e6 e8
  refine q_X2_lum (by unfold Md; omega) (by unfold Md; omega) (by unfold Md; omega) ?_
  refine q_X1_leastOf (by unfold Sm; omega) (by unfold Sm; omega) (by unfold Sm; omega) ?_
  refine q_X1_mostOf (by unfold Sm; omega) (by unfold Sm; omega) (by unfold Sm; omega) ?_
  have e := ad_lm f l
  unfold lmF at e
  rw [e]
  refine q_X1_drawnIn (n := mnF (adF f l)) (m := mxF (adF f l)) (by omega) (by omega) (by omega) (by omega) (by omega) (by omega) hl ?_
  refine q_X1_drawnIn (n := mnF (adF f l)) (m := mxF (adF f l)) (by omega) (by omega) (by omega) (by omega) (by omega) (by omega) hl ?_
  refine q_X1_drawnIn (n := mnF (adF f l)) (m := mxF (adF f l)) (by omega) (by omega) (by omega) (by omega) (by omega) (by omega) hl ?_
  exact q_packF (f := slF f l) (slF_b f l) h
theorem q_X1_ofColours {m : Int} {b t : F3} {P : Int32 → Prop} (hm : Sm m) (hb : B3 b) (ht : B3 t) (h : P (iI (pkF (blS m b t)))) : wp_X1_ofColours (iI m) (iI (pkF b)) (iI (pkF t)) P := by
  unfold wp_X1_ofColours
  unfold blS at h
  refine w_eq (b := 12) hm (by unfold Sm; omega) (fun e => ?_) (fun e => ?_)
  · rw [if_pos e] at h
    exact q_X1_satOf hb (q_X1_withSat ht (sat_b hb) (q_X1_lumOf hb (q_X1_withLum (ssF_b (sat_b hb)) (lmF_b hb) h)))
  rw [if_neg e] at h
  refine w_eq (b := 13) hm (by unfold Sm; omega) (fun e => ?_) (fun e => ?_)
  · rw [if_pos e] at h
    exact q_X1_satOf ht (q_X1_withSat hb (sat_b ht) (q_X1_lumOf hb (q_X1_withLum (ssF_b (sat_b ht)) (lmF_b hb) h)))
  rw [if_neg e] at h
  refine w_eq (b := 14) hm (by unfold Sm; omega) (fun e => ?_) (fun e => ?_)
  · rw [if_pos e] at h
    exact q_X1_lumOf hb (q_X1_withLum ht (lmF_b hb) h)
  rw [if_neg e] at h
  refine w_eq (b := 15) hm (by unfold Sm; omega) (fun e => ?_) (fun e => ?_)
  · rw [if_pos e] at h
    exact q_X1_lumOf ht (q_X1_withLum hb (lmF_b ht) h)
  rw [if_neg e] at h
  have hx : B3 (fun k => sepS m (b k) (t k)) := fun k hk => sepS_b (hb k hk) (ht k hk)
  exact q_bF0 hb (q_bF0 ht (q_X1_ofBytes hm (hb 0 (by omega)) (ht 0 (by omega)) (q_bF1 hb (q_bF1 ht (q_X1_ofBytes hm (hb 1 (by omega)) (ht 1 (by omega)) (q_bF2 hb (q_bF2 ht (q_X1_ofBytes hm (hb 2 (by omega)) (ht 2 (by omega)) (q_packF (f := fun k => sepS m (b k) (t k)) hx h)))))))))
/-! the model -/
theorem q_X4_setSat {um : Nat → Nat → Int32} {f : F3} {v : Int} {P : (Nat → Nat → Int32) → Prop} (hr : RF (um 15) f) (hf : B3 f) (hv : Bt v) (h : ∀ um', (∀ r, r ≠ 15 → um' r = um r) → RF (um' 15) (ssF f v) → P um') : wp_X4_setSat um (iI v) P := by
  have h0 := (hf 0 (by omega)).sm
  have h1 := (hf 1 (by omega)).sm
  have h2 := (hf 2 (by omega)).sm
  have hs := sat_b hf
  have hs' := hs
  unfold Bt at hs'
  unfold wp_X4_setSat
  refine q_X4_least hr.r h0 h1 h2 (q_X4_sat hr.r h0 h1 h2 ⟨4, ?_⟩)
  refine three 15 0 (fun k => iI (ssF f v k)) (fun N k um' hk hR hel hn => ?_) ?_
  · rw [wp_X4_setSat_19]
    refine bf (i3n hk) (w_ne (a := mxF f - mnF f) (b := 0) (by unfold Sm; omega) (by unfold Sm; omega) (fun e => ?_) (fun e => ⟨i3i hk, w_nz (a := mxF f - mnF f) (by unfold Sm; omega) e, ?_⟩))
    · unfold wp_X4_setSat_52
      refine ⟨i3i hk, fun u eu v4 e4 => ?_⟩
      subst eu e4
      rw [i3c hk, nI_1]
      rw [Nat.zero_add] at hn
      have : ssF f v k = 0 := by unfold ssF ssS; rw [if_pos e]
      rw [this] at hn
      exact hn
    · unfold wp_X4_setSat_52
      refine ⟨i3i hk, fun u eu v4 e4 => ?_⟩
      subst eu e4
      have m0 := mnF_s f k hk
      rw [i3c hk, nI_1]
      rw [Nat.zero_add] at hn hel
      show wp_X4_setSat_19 _ _ _ _ _ (st um' 15 k ((((um' 15 k) - iI (mnF f)) * iI v) / iI (mxF f - mnF f))) _
      rw [hel, hr k hk, e_ss m0.1 (by omega) hs hv (by omega)]
      exact hn
  · rw [wp_X4_setSat_19]
    exact bt (by decide) (h _ (fun r hr => s3_row hr) (RF_s3 (fun k _ => rfl)))
theorem q_clamp {c : Int} {P : Int32 → Prop} (hc : Sm c) (h : P (iI (clS c))) : (0 ≤ iI c → ((iI c ≤ 255 → P (iI c)) ∧ (¬ iI c ≤ 255 → P 255))) ∧ (¬ 0 ≤ iI c → P 0) := by
  unfold clS at h
  refine w_le (a := 0) (by unfold Sm; omega) hc (fun q => w_le (b := 255) hc (by unfold Sm; omega) (fun q2 => ?_) (fun q2 => ?_)) (fun q => ?_)
  · by_cases h1 : c < 255
    · rw [if_pos h1] at h
      by_cases h2 : 0 < c
      · rw [if_pos h2] at h; exact h
      · rw [if_neg h2] at h; rw [show c = 0 by omega]; exact h
    · rw [if_neg h1, if_pos (by omega)] at h; rw [show c = 255 by omega]; exact h
  · rw [if_neg (show ¬ c < 255 by omega), if_pos (by omega)] at h; exact h
  · rw [if_pos (show c < 255 by omega), if_neg (by omega)] at h; exact h
theorem q_X4_setLum {um : Nat → Nat → Int32} {f : F3} {l : Int} {P : (Nat → Nat → Int32) → Prop} (hr : RF (um 15) f) (hf : B3 f) (hl : Bt l) (h : ∀ um', (∀ r, r ≠ 15 → um' r = um r) → RF (um' 15) (slF f l) → P um') : wp_X4_setLum um (iI l) P := by
  have a0 := adF_b hf hl 0 (by omega)
  have a1 := adF_b hf hl 1 (by omega)
  have a2 := adF_b hf hl 2 (by omega)
  have am := ad_mn hf hl
  have hl' := hl
  unfold Bt at hl'
  unfold wp_X4_setLum
  refine q_X4_lum hr.r (hf 0 (by omega)).md (hf 1 (by omega)).md (hf 2 (by omega)).md (fun v2 e2 => ⟨4, ?_⟩)
  rw [isub] at e2
  subst e2
  refine three 15 0 (fun k => iI (adF f l k)) (fun N k um' hk hR hel hn => ?_) ?_
  · rw [wp_X4_setLum_12]
    refine bf (i3n hk) ⟨i3i hk, i3i hk, fun u eu v4 e4 => ?_⟩
    subst eu e4
    rw [i3c hk, nI_1]
    rw [Nat.zero_add] at hn hel
    rw [hel, hr k hk, iadd]
    exact hn
  rw [wp_X4_setLum_12]
  refine bt (by decide) ?_
  have r1 : RF (s3 um 15 0 (fun k => iI (adF f l k)) 15) (adF f l) := RF_s3 (fun k _ => rfl)
  have f1 : ∀ r, r ≠ 15 → s3 um 15 0 (fun k => iI (adF f l k)) r = um r := fun r hr => s3_row hr
  generalize s3 um 15 0 (fun k => iI (adF f l k)) = u1 at r1 f1 ⊢
  refine q_X4_lum r1.r (by unfold Md; omega) (by unfold Md; omega) (by unfold Md; omega) ?_
  refine q_X4_least r1.r (by unfold Sm; omega) (by unfold Sm; omega) (by unfold Sm; omega) ?_
  refine q_X4_greatest r1.r (by unfold Sm; omega) (by unfold Sm; omega) (by unfold Sm; omega) ?_
  have e := ad_lm f l
  unfold lmF at e
  rw [e]
  show ∃ N66, wp_X4_setLum_66 (fun um15 => wp_X4_setLum_110 P um15 (iI l) (iI (mxF (adF f l)))) (iI l) (iI (mnF (adF f l))) (iI (mxF (adF f l))) N66 u1 0
  have db : ∀ k, k < 3 → -400000 ≤ d1S (adF f l k) l (mnF (adF f l)) ∧ d1S (adF f l k) l (mnF (adF f l)) ≤ 400000 := fun k hk => by
    have := adF_b hf hl k hk
    exact d1S_b (by omega) (by omega) hl
  have s4 : ∀ u, RF (u 15) (fun k => d2S (d1S (adF f l k) l (mnF (adF f l))) l (mxF (adF f l))) → (∀ r, r ≠ 15 → u r = um r) → wp_X4_setLum_164 P u := by
    intro u ru fu
    unfold wp_X4_setLum_164
    refine ⟨4, three 15 0 (fun k => iI (slF f l k)) (fun N k um' hk hR hel hn => ?_) ?_⟩
    · rw [wp_X4_setLum_167]
      rw [Nat.zero_add] at hn hel
      have hd := db k hk
      have hd2 := d2S_b (m := mxF (adF f l)) hd.1 hd.2 hl
      have fin : wp_X4_setLum_219 (wp_X4_setLum_167 (fun um27 => P um27) N) um' (nI k) (iI (clS (d2S (d1S (adF f l k) l (mnF (adF f l))) l (mxF (adF f l))))) (nI k) := by
        unfold wp_X4_setLum_219
        refine ⟨i3i hk, fun u eu v4 e4 => ?_⟩
        subst eu e4
        rw [i3c hk, nI_1]
        exact hn
      refine bf (i3n hk) ⟨i3i hk, ?_⟩
      rw [i3c hk, hel, ru k hk]
      have := q_clamp (P := fun z => wp_X4_setLum_219 (wp_X4_setLum_167 (fun um27 => P um27) N) um' (nI k) z (nI k)) (by unfold Sm; omega) fin
      exact ⟨fun q => ⟨i3i hk, fun q2 => ⟨i3i hk, (this.1 q).1 q2⟩, (this.1 q).2⟩, this.2⟩
    · rw [wp_X4_setLum_167]
      exact bt (by decide) (h _ (fun r hr => by rw [s3_row hr, fu r hr]) (RF_s3 (fun k _ => rfl)))
  have s5 : ∀ u, RF (u 15) (fun k => d1S (adF f l k) l (mnF (adF f l))) → (∀ r, r ≠ 15 → u r = um r) → wp_X4_setLum_110 P u (iI l) (iI (mxF (adF f l))) := by
    intro u ru fu
    unfold wp_X4_setLum_110
    by_cases q : 255 < mxF (adF f l)
    · refine ⟨4, three 15 0 (fun k => iI (d2S (d1S (adF f l k) l (mnF (adF f l))) l (mxF (adF f l)))) (fun N k um' hk hR hel hn => ?_) ?_⟩
      · rw [wp_X4_setLum_113]
        rw [Nat.zero_add] at hn hel
        have hd := db k hk
        refine bf (i3n hk) (w_le (b := 255) (by unfold Sm; omega) (by unfold Sm; omega) (fun q2 => by omega) (fun _ => ⟨i3i hk, ?_⟩))
        have rk : u 15 k = iI (d1S (adF f l k) l (mnF (adF f l))) := ru k hk
        rw [i3c hk, hel, rk, isub, e_255m, imul, isub]
        have h1 := mulB (a := d1S (adF f l k) l (mnF (adF f l)) - l) (b := 255 - l) (K := 401000) (M := 255) (by omega) (by omega) (by omega) (by omega) (by omega)
        refine q_down (by omega) (by omega) (by omega) (by omega) ⟨i3i hk, fun u eu v4 e4 => ?_⟩
        subst eu e4
        rw [nI_1, iadd]
        have : d2S (d1S (adF f l k) l (mnF (adF f l))) l (mxF (adF f l)) = l + (d1S (adF f l k) l (mnF (adF f l)) - l) * (255 - l) / (mxF (adF f l) - l) := by unfold d2S; rw [if_pos q]
        rw [this] at hn
        exact hn
      · rw [wp_X4_setLum_113]
        exact bt (by decide) (s4 _ (RF_s3 (fun k _ => rfl)) (fun r hr => by rw [s3_row hr, fu r hr]))
    · refine ⟨1, ?_⟩
      rw [wp_X4_setLum_113]
      refine bf (by decide) (w_le (b := 255) (by unfold Sm; omega) (by unfold Sm; omega) (fun _ => s4 u (fun k hk => ?_) fu) (fun q2 => by omega))
      have e9 : d2S (d1S (adF f l k) l (mnF (adF f l))) l (mxF (adF f l)) = d1S (adF f l k) l (mnF (adF f l)) := by unfold d2S; rw [if_neg q]
      exact (ru k hk).trans (congrArg iI e9.symm)
  by_cases q : mnF (adF f l) < 0
  · refine ⟨4, three 15 0 (fun k => iI (d1S (adF f l k) l (mnF (adF f l)))) (fun N k um' hk hR hel hn => ?_) ?_⟩
    · rw [wp_X4_setLum_66]
      rw [Nat.zero_add] at hn hel
      have hd := adF_b hf hl k hk
      refine bf (i3n hk) (w_le (a := 0) (by unfold Sm; omega) (by unfold Sm; omega) (fun q2 => by omega) (fun _ => ⟨i3i hk, ?_⟩))
      rw [i3c hk, hel, r1 k hk, isub, imul, isub]
      have h1 := mulB (a := adF f l k - l) (b := l) (K := 1300) (M := 255) (by omega) (by omega) (by omega) (by omega) (by omega)
      refine q_down (by omega) (by omega) (by omega) (by omega) ⟨i3i hk, fun u eu v4 e4 => ?_⟩
      subst eu e4
      rw [nI_1, iadd]
      have : d1S (adF f l k) l (mnF (adF f l)) = l + (adF f l k - l) * l / (l - mnF (adF f l)) := by unfold d1S; rw [if_pos q]
      rw [this] at hn
      exact hn
    · rw [wp_X4_setLum_66]
      exact bt (by decide) (s5 _ (RF_s3 (fun k _ => rfl)) (fun r hr => by rw [s3_row hr, f1 r hr]))
  · refine ⟨1, ?_⟩
    rw [wp_X4_setLum_66]
    refine bf (by decide) (w_le (a := 0) (by unfold Sm; omega) (by unfold Sm; omega) (fun _ => s5 u1 (fun k hk => ?_) f1) (fun q2 => by omega))
    have e9 : d1S (adF f l k) l (mnF (adF f l)) = adF f l k := by unfold d1S; rw [if_neg q]
    exact (r1 k hk).trans (congrArg iI e9.symm)
theorem q_copyT {um : Nat → Nat → Int32} {P : (Nat → Nat → Int32) → Prop} (h : P (s3 um 15 0 (um 12))) : wp_X4_copyT um P := by
  unfold wp_X4_copyT
  refine ⟨4, three 15 0 (um 12) (fun N k um' hk hR hel hn => ?_) ?_⟩
  · rw [wp_X4_copyT_2]
    rw [Nat.zero_add] at hn
    refine bf (i3n hk) ⟨i3i hk, i3i hk, fun u eu v4 e4 => ?_⟩
    subst eu e4
    rw [i3c hk, nI_1, hR 12 (by decide)]
    exact hn
  · rw [wp_X4_copyT_2]
    exact bt (by decide) h
theorem q_copyB {um : Nat → Nat → Int32} {P : (Nat → Nat → Int32) → Prop} (h : P (s3 um 15 0 (um 13))) : wp_X4_copyB um P := by
  unfold wp_X4_copyB
  refine ⟨4, three 15 0 (um 13) (fun N k um' hk hR hel hn => ?_) ?_⟩
  · rw [wp_X4_copyB_2]
    rw [Nat.zero_add] at hn
    refine bf (i3n hk) ⟨i3i hk, i3i hk, fun u eu v4 e4 => ?_⟩
    subst eu e4
    rw [i3c hk, nI_1, hR 13 (by decide)]
    exact hn
  · rw [wp_X4_copyB_2]
    exact bt (by decide) h
theorem q_mix_147 {um : Nat → Nat → Int32} {f : F3} {l : Int} {P : (Nat → Nat → Int32) → Prop} (hr : RF (um 15) f) (hf : B3 f) (hl : Bt l) (h : ∀ um', (∀ r, r ≠ 14 → r ≠ 15 → um' r = um r) → RF (um' 14) (slF f l) → P um') : wp_X4_mix_147 P um (iI l) := by
  unfold wp_X4_mix_147
  refine q_X4_setLum hr hf hl (fun u fu ru => ⟨4, three 14 0 (fun k => iI (slF f l k)) (fun N k um' hk hR hel hn => ?_) ?_⟩)
  · rw [wp_X4_mix_152]
    rw [Nat.zero_add] at hn
    refine bf (i3n hk) ⟨i3i hk, i3i hk, fun u eu v4 e4 => ?_⟩
    subst eu e4
    rw [i3c hk, nI_1, hR 15 (by decide), ru k hk]
    exact hn
  · rw [wp_X4_mix_152]
    exact bt (by decide) (h _ (fun r h14 h15 => by rw [s3_row h14, fu r h15]) (RF_s3 (fun k _ => rfl)))
theorem q_X4_mix {um : Nat → Nat → Int32} {b t : F3} {m : Int} {P : (Nat → Nat → Int32) → Prop} (hm : 0 ≤ m) (hm2 : m ≤ 15) (rb : RF (um 13) b) (rt : RF (um 12) t) (hb : B3 b) (ht : B3 t) (h : ∀ um', (∀ r, r ≠ 14 → r ≠ 15 → um' r = um r) → RF (um' 14) (blS m b t) → P um') : wp_X4_mix um (iI m) P := by
  have hs : Sm m := by unfold Sm; omega
  unfold wp_X4_mix
  have T : ∀ u : Nat → Nat → Int32, (∀ r, r ≠ 15 → u r = um r) → RF (u 12) t ∧ RF (u 13) b := fun u fu => by rw [fu 12 (by decide), fu 13 (by decide)]; exact ⟨rt, rb⟩
  have L13 : ∀ (u : Nat → Nat → Int32) (f : F3), (∀ r, r ≠ 15 → u r = um r) → RF (u 15) f → B3 f → ¬ m = 15 → (blS m b t = slF f (lmF b)) → wp_X4_mix_123 P u (iI m) := by
    intro u f fu ru hf hne eb
    unfold wp_X4_mix_123
    refine w_ne (b := 15) hs (by unfold Sm; omega) (fun e => absurd e hne) (fun _ => ?_)
    refine q_X4_lum (T u fu).2.r (hb 0 (by omega)).md (hb 1 (by omega)).md (hb 2 (by omega)).md ?_
    exact q_mix_147 ru hf (lmF_b hb) (fun u' fu' ru' => h u' (fun r h14 h15 => by rw [fu' r h14 h15, fu r h15]) (by rw [eb]; exact ru'))
  refine w_le (a := 12) (by unfold Sm; omega) hs (fun q => ?_) (fun q => ⟨4, ?_⟩)
  · refine w_ne (b := 12) hs (by unfold Sm; omega) (fun e => ?_) (fun e => ?_)
    · refine q_copyT ?_
      have f1 : ∀ r, r ≠ 15 → s3 um 15 0 (um 12) r = um r := fun r hr => s3_row hr
      have r1 : RF (s3 um 15 0 (um 12) 15) t := RF_s3 rt
      generalize s3 um 15 0 (um 12) = u1 at f1 r1 ⊢
      refine q_X4_sat (T u1 f1).2.r (hb 0 (by omega)).sm (hb 1 (by omega)).sm (hb 2 (by omega)).sm ?_
      exact q_X4_setSat r1 ht (sat_b hb) (fun u fu ru => L13 u _ (fun r hr => by rw [fu r hr, f1 r hr]) ru (ssF_b (sat_b hb)) (by omega) (by unfold blS; rw [if_pos e]; rfl))
    · refine w_ne (b := 13) hs (by unfold Sm; omega) (fun e2 => ?_) (fun e2 => ?_)
      · refine q_copyB ?_
        have f1 : ∀ r, r ≠ 15 → s3 um 15 0 (um 13) r = um r := fun r hr => s3_row hr
        have r1 : RF (s3 um 15 0 (um 13) 15) b := RF_s3 rb
        generalize s3 um 15 0 (um 13) = u1 at f1 r1 ⊢
        refine q_X4_sat (T u1 f1).1.r (ht 0 (by omega)).sm (ht 1 (by omega)).sm (ht 2 (by omega)).sm ?_
        exact q_X4_setSat r1 hb (sat_b ht) (fun u fu ru => L13 u _ (fun r hr => by rw [fu r hr, f1 r hr]) ru (ssF_b (sat_b ht)) (by omega) (by unfold blS; rw [if_neg e, if_pos e2]; rfl))
      · refine w_ne (b := 14) hs (by unfold Sm; omega) (fun e3 => ?_) (fun e3 => ?_)
        · refine q_copyT ?_
          exact L13 _ t (fun r hr => s3_row hr) (RF_s3 rt) ht (by omega) (by unfold blS; rw [if_neg e, if_neg e2, if_pos e3])
        · refine q_copyB ?_
          have f1 : ∀ r, r ≠ 15 → s3 um 15 0 (um 13) r = um r := fun r hr => s3_row hr
          have r1 : RF (s3 um 15 0 (um 13) 15) b := RF_s3 rb
          generalize s3 um 15 0 (um 13) = u1 at f1 r1 ⊢
          unfold wp_X4_mix_123
          refine w_ne (b := 15) hs (by unfold Sm; omega) (fun e4 => ?_) (fun e4 => by omega)
          refine q_X4_lum (T u1 f1).1.r (ht 0 (by omega)).md (ht 1 (by omega)).md (ht 2 (by omega)).md ?_
          exact q_mix_147 r1 hb (lmF_b ht) (fun u' fu' ru' => h u' (fun r h14 h15 => by rw [fu' r h14 h15, f1 r h15]) (by unfold blS; rw [if_neg e, if_neg e2, if_neg e3, if_pos e4]; exact ru'))
  · have eb : blS m b t = fun k => sepS m (b k) (t k) := by unfold blS; rw [if_neg (by omega), if_neg (by omega), if_neg (by omega), if_neg (by omega)]
    refine three 14 0 (fun k => iI (sepS m (b k) (t k))) (fun N k um' hk hR hel hn => ?_) ?_
    · rw [wp_X4_mix_8]
      rw [Nat.zero_add] at hn
      refine bf (i3n hk) ⟨i3i hk, i3i hk, ?_⟩
      rw [i3c hk, hR 13 (by decide), hR 12 (by decide), rb k hk, rt k hk]
      refine q_X4_ofBytes hm (by omega) (hb k hk) (ht k hk) ⟨i3i hk, fun u eu v4 e4 => ?_⟩
      subst eu e4
      rw [nI_1]
      exact hn
    · rw [wp_X4_mix_8]
      exact bt (by decide) (h _ (fun r h14 _ => s3_row h14) (by rw [eb]; exact RF_s3 (fun k _ => rfl)))
