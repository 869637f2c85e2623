/-! one point: an element is put -/
abbrev Cl := Nat → Int
def CB (c : Cl) : Prop := ∀ k, k < 9 → Bt (c k)
def bcF (c : Cl) : F3 := fun k => c k
def cuF (c : Cl) : F3 := fun k => c (4 + k)
def belF (kn : Bool) (c : Cl) : F3 := fun k => if kn = true then c k else c (4 + k)
def waS (c : Cl) : Int := un (c 3) (c 7)
def undS (kn : Bool) (c : Cl) : Int := if kn = true then c 3 else waS c
def hadS (kn : Bool) (c : Cl) : Int := if kn = true then 0 else c 7
def owV (f a o h : Int) : Int := ((255 - f) * o + (f - a) * h + 255 * a + 127) / 255
def owS (kn : Bool) (f a : Int) (c : Cl) : Int := owV f a (c 7) (hadS kn c)
def nowS (kn : Bool) (f a : Int) (c : Cl) : Int := un (c 3) (owS kn f a c)
def laV (u s m : Int) : Int := (255 - u) * s + u * m
def smV (f a w u cu b la : Int) : Int := (255 - f) * w * cu + (f - a) * u * b + a * la
def vV (s n : Int) : Int := if (s + 255 * n / 2) / (255 * n) < 255 then (s + 255 * n / 2) / (255 * n) else 255
def coS (kn : Bool) (m f a : Int) (t : F3) (sy : Nat → Bool) (c : Cl) : F3 := fun k => vV (smV f a (waS c) (undS kn c) (c (4 + k)) (belF kn c k) (laV (undS kn c) (if sy k = true then belF kn c k else t k) (if sy k = true then belF kn c k else blS m (belF kn c) t k))) (nowS kn f a c)
def putC (kn : Bool) (m f a : Int) (t : F3) (sy : Nat → Bool) (c : Cl) : Cl := fun i => if f = 0 then c i else if i = 7 then owS kn f a c else if i = 8 then un (c 8) f else if 4 ≤ i ∧ i < 7 then (if nowS kn f a c = 0 then c i else coS kn m f a t sy c (i - 4)) else c i
theorem CB.bc {c : Cl} (h : CB c) : B3 (bcF c) := fun k hk => h k (by omega)
theorem CB.cu {c : Cl} (h : CB c) : B3 (cuF c) := fun k hk => h (4 + k) (by omega)
theorem CB.bel {c : Cl} (h : CB c) (kn : Bool) : B3 (belF kn c) := fun k hk => by
  unfold belF
  split
  · exact h k (by omega)
  · exact h (4 + k) (by omega)
theorem CB.wa {c : Cl} (h : CB c) : Bt (waS c) := un_b (h 3 (by omega)) (h 7 (by omega))
theorem CB.und {c : Cl} (h : CB c) (kn : Bool) : Bt (undS kn c) := by
  unfold undS
  split
  · exact h 3 (by omega)
  · exact h.wa
theorem CB.had {c : Cl} (h : CB c) (kn : Bool) : Bt (hadS kn c) := by
  unfold hadS
  split
  · unfold Bt; omega
  · exact h 7 (by omega)
theorem ow_s {f a o h : Int} (hf : Bt f) (ha : 0 ≤ a) (ha2 : a ≤ f) (ho : Bt o) (hh : Bt h) : 0 ≤ (255 - f) * o + (f - a) * h + 255 * a ∧ (255 - f) * o + (f - a) * h + 255 * a ≤ 65025 := by
  have h1 := mb (a := 255 - f) (b := o) (x := 255 - f) (y := 255) (by unfold Bt at hf; omega) (by omega) ho.1 ho.2
  have h2 := mb (a := f - a) (b := h) (x := f - a) (y := 255) (by omega) (by omega) hh.1 hh.2
  omega
theorem owV_b {f a o h : Int} (hf : Bt f) (ha : 0 ≤ a) (ha2 : a ≤ f) (ho : Bt o) (hh : Bt h) : Bt (owV f a o h) := by
  have := ow_s hf ha ha2 ho hh
  unfold owV Bt
  omega
theorem e_ow {f a o h : Int} (hf : Bt f) (ha : 0 ≤ a) (ha2 : a ≤ f) (ho : Bt o) (hh : Bt h) : (((((255 - iI f) * iI o) + ((iI f - iI a) * iI h)) + (255 * iI a)) + 127) / 255 = iI (owV f a o h) := by
  have := ow_s hf ha ha2 ho hh
  rw [e_255m, e_255b, isub, imul, imul, iadd, iadd]
  show (iI _ + iI 127) / iI 255 = _
  rw [iadd, iI_dv (by omega) (by omega) (by omega) (by omega)]
  rfl
theorem la_b {u s m : Int} (hu : Bt u) (hs : Bt s) (hm : Bt m) : 0 ≤ laV u s m ∧ laV u s m ≤ 65025 := by
  have h1 := mb (a := 255 - u) (b := s) (x := 255 - u) (y := 255) (by unfold Bt at hu; omega) (by omega) hs.1 hs.2
  have h2 := mb (a := u) (b := m) (x := u) (y := 255) hu.1 (by omega) hm.1 hm.2
  unfold laV
  omega
theorem sm_b {f a w u cu b la : Int} (hf : Bt f) (ha : 0 ≤ a) (ha2 : a ≤ f) (hw : Bt w) (hu : Bt u) (hc : Bt cu) (hb : Bt b) (h0 : 0 ≤ la) (h1 : la ≤ 65025) : 0 ≤ smV f a w u cu b la ∧ smV f a w u cu b la ≤ 16581375 := by
  have h2 := mb (a := 255 - f) (b := w) (x := 255 - f) (y := 255) (by unfold Bt at hf; omega) (by omega) hw.1 hw.2
  have h3 := mb (a := (255 - f) * w) (b := cu) (x := (255 - f) * 255) (y := 255) h2.1 h2.2 hc.1 hc.2
  have h4 := mb (a := f - a) (b := u) (x := f - a) (y := 255) (by omega) (by omega) hu.1 hu.2
  have h5 := mb (a := (f - a) * u) (b := b) (x := (f - a) * 255) (y := 255) h4.1 h4.2 hb.1 hb.2
  have h6 := mb (a := a) (b := la) (x := a) (y := 65025) ha (by omega) h0 h1
  unfold smV
  omega
theorem vV_b {s n : Int} (hs : 0 ≤ s) (hn : 0 < n) : Bt (vV s n) := by
  have h : 0 ≤ (s + 255 * n / 2) / (255 * n) := Int.ediv_nonneg (by omega) (by omega)
  unfold vV Bt
  split <;> omega
theorem e_vq {s n : Int} (hs : 0 ≤ s) (hs2 : s ≤ 16581375) (hn : Bt n) : (iI s + (iI (255 * n) / 2)) / iI (255 * n) = iI ((s + 255 * n / 2) / (255 * n)) := by
  unfold Bt at hn
  show (iI s + (iI (255 * n) / iI 2)) / iI (255 * n) = _
  rw [iI_dv (a := 255 * n) (b := 2) (by omega) (by omega) (by omega) (by omega), iadd, iI_dv (by omega) (by omega) (by omega) (by omega)]
theorem vq_b {s n : Int} (hs : 0 ≤ s) (hs2 : s ≤ 16581375) (hn : 0 < n) (hn2 : n ≤ 255) : 0 ≤ (s + 255 * n / 2) / (255 * n) ∧ (s + 255 * n / 2) / (255 * n) ≤ 16700000 := by
  refine ⟨Int.ediv_nonneg (by omega) (by omega), ?_⟩
  apply Int.ediv_le_of_le_mul (by omega)
  omega
theorem q_nearest {s n : Int} {P : Int32 → Prop} (hs : 0 ≤ s) (hs2 : s ≤ 16581375) (hn : 0 < n) (hn2 : n ≤ 255) (h : P (iI (vV s n))) : wp_X2_nearest (iI s) (iI (255 * n)) P := by
  unfold wp_X2_nearest
  have hq := vq_b hs hs2 hn hn2
  refine w_lt (a := 0) (by unfold Sm; omega) (by unfold Sm; omega) (fun _ => ⟨w_nz (by unfold Sm; omega) (by omega), ?_⟩) (fun q => by omega)
  rw [e_vq hs hs2 (by unfold Bt; omega)]
  show P (if iI _ < iI 255 then iI _ else iI 255)
  rw [ilt (by unfold Sm; omega) (by unfold Sm; omega)]
  exact h
theorem coS_b {kn : Bool} {m f a : Int} {t : F3} {sy : Nat → Bool} {c : Cl} (hc : CB c) (hf : Bt f) (ha : 0 ≤ a) (ha2 : a ≤ f) (ht : B3 t) (h0 : ¬ nowS kn f a c = 0) : B3 (coS kn m f a t sy c) := fun k hk => by
  have hb := hc.bel kn k hk
  have hn : Bt (nowS kn f a c) := un_b (hc 3 (by omega)) (owV_b hf ha ha2 (hc 7 (by omega)) (hc.had kn))
  have hs : Bt (if sy k = true then belF kn c k else t k) := by split; exact hb; exact ht k hk
  have hm : Bt (if sy k = true then belF kn c k else blS m (belF kn c) t k) := by split; exact hb; exact blS_b (hc.bel kn) ht k hk
  have hl := la_b (hc.und kn) hs hm
  have := sm_b (cu := c (4 + k)) hf ha ha2 hc.wa (hc.und kn) (hc (4 + k) (by omega)) hb hl.1 hl.2
  exact vV_b this.1 (by unfold Bt at hn; omega)
theorem putC_b {kn : Bool} {m f a : Int} {t : F3} {sy : Nat → Bool} {c : Cl} (hc : CB c) (hf : Bt f) (ha : 0 ≤ a) (ha2 : a ≤ f) (ht : B3 t) : CB (putC kn m f a t sy c) := fun i hi => by
  unfold putC
  by_cases h0 : f = 0
  · rw [if_pos h0]; exact hc i hi
  rw [if_neg h0]
  by_cases h7 : i = 7
  · rw [if_pos h7]; exact owV_b hf ha ha2 (hc 7 (by omega)) (hc.had kn)
  rw [if_neg h7]
  by_cases h8 : i = 8
  · rw [if_pos h8]; exact un_b (hc 8 (by omega)) hf
  rw [if_neg h8]
  by_cases h4 : 4 ≤ i ∧ i < 7
  · rw [if_pos h4]
    by_cases hn : nowS kn f a c = 0
    · rw [if_pos hn]; exact hc i hi
    · rw [if_neg hn]; exact coS_b hc hf ha ha2 ht hn (i - 4) (by omega)
  · rw [if_neg h4]; exact hc i hi
theorem put_z {kn : Bool} {m f a : Int} {t : F3} {sy : Nat → Bool} {c : Cl} (h : f = 0) : putC kn m f a t sy c = c := by
  funext i
  unfold putC
  rw [if_pos h]
theorem put_lo {kn : Bool} {m f a : Int} {t : F3} {sy : Nat → Bool} {c : Cl} {i : Nat} (h : i < 4) : putC kn m f a t sy c i = c i := by
  unfold putC
  by_cases h0 : f = 0
  · rw [if_pos h0]
  · rw [if_neg h0, if_neg (by omega), if_neg (by omega), if_neg (by omega)]
theorem put_7 {kn : Bool} {m f a : Int} {t : F3} {sy : Nat → Bool} {c : Cl} (h : ¬ f = 0) : putC kn m f a t sy c 7 = owS kn f a c := by
  unfold putC
  rw [if_neg h, if_pos rfl]
theorem put_8 {kn : Bool} {m f a : Int} {t : F3} {sy : Nat → Bool} {c : Cl} (h : ¬ f = 0) : putC kn m f a t sy c 8 = un (c 8) f := by
  unfold putC
  rw [if_neg h, if_neg (by omega), if_pos rfl]
theorem put_c0 {kn : Bool} {m f a : Int} {t : F3} {sy : Nat → Bool} {c : Cl} {k : Nat} (h : ¬ f = 0) (hk : k < 3) (hn : nowS kn f a c = 0) : putC kn m f a t sy c (4 + k) = c (4 + k) := by
  unfold putC
  rw [if_neg h, if_neg (by omega), if_neg (by omega), if_pos (by omega), if_pos hn]
theorem put_c1 {kn : Bool} {m f a : Int} {t : F3} {sy : Nat → Bool} {c : Cl} {k : Nat} (h : ¬ f = 0) (hk : k < 3) (hn : ¬ nowS kn f a c = 0) : putC kn m f a t sy c (4 + k) = coS kn m f a t sy c k := by
  unfold putC
  rw [if_neg h, if_neg (by omega), if_neg (by omega), if_pos (by omega), if_neg hn, Nat.add_sub_cancel_left]
/-! the class -/
def CC (ub : Nat → Nat → Int32) (i : Nat) (c : Cl) : Prop := ub 1 i = iI (pkF (bcF c)) ∧ ub 2 i = iI (c 3) ∧ ub 3 i = iI (pkF (cuF c)) ∧ ub 4 i = iI (c 7) ∧ ub 5 i = iI (c 8)
def SY (x : Int32) (sy : Nat → Bool) : Prop := ∀ k, k < 3 → (((x >>> (nI k &&& 31)) &&& 1) = 1 ↔ sy k = true)
theorem q_whole {n i : Nat} {ub : Nat → Nat → Int32} {b o : Int} {P : Int32 → Prop} (hi : i < n) (hn : n ≤ 144) (h2 : ub 2 i = iI b) (h4 : ub 4 i = iI o) (hb : Bt b) (ho : Bt o) (h : P (iI (un b o))) : wp_X0_wholeAlpha n ub (nI i) P := by
  unfold wp_X0_wholeAlpha
  refine ⟨vin hi (by omega), vin hi (by omega), ?_⟩
  rw [ncl (by omega), h2, h4]
  exact q_X2_union hb ho h
theorem e_packL {f : F3} (hf : B3 f) : (((0 : Int32) ||| (iI (f 0) <<< ((8 * nI 0) &&& 31))) ||| (iI (f 1) <<< ((8 * nI 1) &&& 31))) ||| (iI (f 2) <<< ((8 * nI 2) &&& 31)) = iI (pkF f) := by
  rw [show (8 : Int32) * nI 0 = 0 from by decide, show (8 : Int32) * nI 1 = 8 from by decide, show (8 : Int32) * nI 2 = 16 from by decide, show (0 : Int32) &&& 31 = 0 from by decide, Int32.shiftLeft_zero, Int32.zero_or]
  exact e_pack (hf 0 (by omega)) (hf 1 (by omega)) (hf 2 (by omega))
theorem put_step {n i N : Nat} {KX : (Nat → Nat → Int32) → Int32 → Prop} {ub : Nat → Nat → Int32} {k : Nat} {x13 x6 : Int32} {f a w u now : Int} {t cu b mx : F3} {sy : Nat → Bool} (hi : i < n) (hn : n ≤ 144) (hk : k < 3) (h3 : ub 3 i = iI (pkF cu)) (hsy : SY x6 sy) (hf : Bt f) (ha : 0 ≤ a) (ha2 : a ≤ f) (hw : Bt w) (hu : Bt u) (hnow : 0 < now) (hnow2 : now ≤ 255) (ht : B3 t) (hcu : B3 cu) (hb : B3 b) (hm : B3 mx)
    (h : wp_X0_put_160 n KX (nI i) (iI (pkF t)) (iI f) (iI a) x6 (iI w) (iI (pkF b)) (iI u) (iI now) (iI (pkF mx)) N ub (x13 ||| (iI (vV (smV f a w u (cu k) (b k) (laV u (if sy k = true then b k else t k) (if sy k = true then b k else mx k))) now) <<< ((8 * nI k) &&& 31))) (nI (k + 1))) :
    wp_X0_put_160 n KX (nI i) (iI (pkF t)) (iI f) (iI a) x6 (iI w) (iI (pkF b)) (iI u) (iI now) (iI (pkF mx)) (N + 1) ub x13 (nI k) := by
  rw [wp_X0_put_160]
  refine bf (i3n hk) (q_bandF hb hk ?_)
  have fin : ∀ la : Int, 0 ≤ la → la ≤ 65025 → la = laV u (if sy k = true then b k else t k) (if sy k = true then b k else mx k) → wp_X0_put_231 n (wp_X0_put_160 n KX (nI i) (iI (pkF t)) (iI f) (iI a) x6 (iI w) (iI (pkF b)) (iI u) (iI now) (iI (pkF mx)) N) ub (nI i) (iI (pkF t)) (iI f) (iI a) x6 (iI w) (iI (pkF b)) (iI u) (iI now) (iI (pkF mx)) x13 (nI k) (iI (b k)) (iI la) := by
    intro la l0 l1 el
    unfold wp_X0_put_231
    refine ⟨vin hi (by omega), ?_⟩
    rw [ncl (by omega), h3]
    refine q_bandF hcu hk (fun v11 e11 => ?_)
    have hsm := sm_b (cu := cu k) (b := b k) hf ha ha2 hw hu (hcu k hk) (hb k hk) l0 l1
    rw [e_255m, isub, imul, imul, imul, imul, imul, iadd, iadd] at e11
    have e11 : v11 = iI (smV f a w u (cu k) (b k) la) := e11
    subst e11
    rw [e_255b]
    refine q_nearest hsm.1 hsm.2 hnow hnow2 (fun v13 e13 v14 e14 => ?_)
    subst e13 e14
    rw [nI_1, el]
    exact h
  have one : sy k = true → wp_X0_put_191 n (wp_X0_put_160 n KX (nI i) (iI (pkF t)) (iI f) (iI a) x6 (iI w) (iI (pkF b)) (iI u) (iI now) (iI (pkF mx)) N) ub (nI i) (iI (pkF t)) (iI f) (iI a) x6 (iI w) (iI (pkF b)) (iI u) (iI now) (iI (pkF mx)) x13 (nI k) (iI (b k)) 1 := by
    intro q
    unfold wp_X0_put_191
    refine bf (by decide) ?_
    rw [e_255b]
    have hbk := hb k hk
    unfold Bt at hbk
    refine fin _ (by omega) (by omega) ?_
    rw [if_pos q, if_pos q]
    unfold laV
    rw [Int.sub_mul]
    omega
  have zero : ¬ sy k = true → wp_X0_put_191 n (wp_X0_put_160 n KX (nI i) (iI (pkF t)) (iI f) (iI a) x6 (iI w) (iI (pkF b)) (iI u) (iI now) (iI (pkF mx)) N) ub (nI i) (iI (pkF t)) (iI f) (iI a) x6 (iI w) (iI (pkF b)) (iI u) (iI now) (iI (pkF mx)) x13 (nI k) (iI (b k)) 0 := by
    intro q
    unfold wp_X0_put_191
    refine bt rfl (q_bandF ht hk (q_bandF hm hk ?_))
    rw [e_255m, imul, imul, iadd]
    have hl := la_b hu (ht k hk) (hm k hk)
    refine fin _ hl.1 hl.2 ?_
    rw [if_neg q, if_neg q]
    rfl
  exact ⟨fun q => zero (fun s => q ((hsy k hk).mpr s)), fun q => one ((hsy k hk).mp q)⟩
def UFr (ub ub' : Nat → Nat → Int32) (i : Nat) : Prop := ∀ r j, (r = 0 ∨ j ≠ i) → ub' r j = ub r j
theorem put73 {n i : Nat} {ub : Nat → Nat → Int32} {P : (Nat → Nat → Int32) → Prop} {c : Cl} {kn : Bool} {x6 : Int32} {m f a : Int} {t : F3} {sy : Nat → Bool} (hi : i < n) (hn : n ≤ 144) (hm : Sm m) (hcc : CC ub i c) (hc : CB c) (hsy : SY x6 sy) (hf0 : ¬ f = 0) (hf : Bt f) (ha : 0 ≤ a) (ha2 : a ≤ f) (ht : B3 t) (h : ∀ ub', CC ub' i (putC kn m f a t sy c) → UFr ub ub' i → P ub') :
    wp_X0_put_73 n P ub (nI i) (iI (pkF t)) (iI f) (iI a) (iI m) x6 (iI (waS c)) (iI (pkF (belF kn c))) (iI (undS kn c)) (iI (hadS kn c)) := by
  obtain ⟨c1, c2, c3, c4, c5⟩ := hcc
  have hi2 := vin (N := n) hi (by omega)
  unfold wp_X0_put_73
  refine ⟨hi2, hi2, fun ub2 e2 => ⟨hi2, ?_⟩⟩
  rw [ncl (by omega)] at e2 ⊢
  rw [c4, e_ow hf ha ha2 (hc 7 (by omega)) (hc.had kn)] at e2
  subst e2
  rw [st_row (by decide), c5]
  refine q_X2_union (hc 8 (by omega)) hf ⟨hi2, fun ub4 e4 => ?_⟩
  have g2 : ub4 2 i = iI (c 3) := by rw [e4, st_row (by decide), st_row (by decide), c2]
  have g4 : ub4 4 i = iI (owS kn f a c) := by rw [e4, st_row (by decide), st_at]; rfl
  have g1 : ub4 1 i = iI (pkF (bcF c)) := by rw [e4, st_row (by decide), st_row (by decide), c1]
  have g3 : ub4 3 i = iI (pkF (cuF c)) := by rw [e4, st_row (by decide), st_row (by decide), c3]
  have g5 : ub4 5 i = iI (un (c 8) f) := by rw [e4, st_at]
  have gu : UFr ub ub4 i := by
    intro r j hrj
    rw [e4, st_get, st_get, if_neg (fun q => by omega), if_neg (fun q => by omega)]
  clear e4
  have hob : Bt (owS kn f a c) := owV_b hf ha ha2 (hc 7 (by omega)) (hc.had kn)
  have hnb : Bt (nowS kn f a c) := un_b (hc 3 (by omega)) hob
  have eb : bcF (putC kn m f a t sy c) 0 = bcF c 0 ∧ bcF (putC kn m f a t sy c) 1 = bcF c 1 ∧ bcF (putC kn m f a t sy c) 2 = bcF c 2 := ⟨put_lo (by omega), put_lo (by omega), put_lo (by omega)⟩
  have epb : pkF (bcF (putC kn m f a t sy c)) = pkF (bcF c) := by unfold pkF; rw [eb.1, eb.2.1, eb.2.2]
  refine q_whole hi hn g2 g4 (hc 3 (by omega)) hob ?_
  show (¬ iI (nowS kn f a c) = 0 → _) ∧ (iI (nowS kn f a c) = 0 → _)
  refine w_ne (b := 0) hnb.sm (by unfold Sm; omega) (fun e => ?_) (fun e => ?_)
  · refine h ub4 ⟨by rw [g1, epb], by rw [g2, put_lo (by omega)], ?_, by rw [g4, put_7 hf0], by rw [g5, put_8 hf0]⟩ gu
    rw [g3]
    unfold pkF cuF
    rw [put_c0 hf0 (by omega) e, put_c0 hf0 (by omega) e, put_c0 hf0 (by omega) e]
  · refine q_X1_ofColours hm (hc.bel kn) ht ⟨4, ?_⟩
    have hn0 : 0 < nowS kn f a c := by unfold Bt at hnb; omega
    refine put_step (k := 0) (N := 3) hi hn (by omega) g3 hsy hf ha ha2 hc.wa (hc.und kn) hn0 hnb.2 ht hc.cu (hc.bel kn) (blS_b (hc.bel kn) ht) ?_
    refine put_step (k := 1) (N := 2) hi hn (by omega) g3 hsy hf ha ha2 hc.wa (hc.und kn) hn0 hnb.2 ht hc.cu (hc.bel kn) (blS_b (hc.bel kn) ht) ?_
    refine put_step (k := 2) (N := 1) hi hn (by omega) g3 hsy hf ha ha2 hc.wa (hc.und kn) hn0 hnb.2 ht hc.cu (hc.bel kn) (blS_b (hc.bel kn) ht) ?_
    rw [wp_X0_put_160]
    refine bt (by decide) ⟨hi2, fun ub20 e20 => ?_⟩
    have e21 := e_packL (coS_b (kn := kn) (m := m) (sy := sy) hc hf ha ha2 ht e)
    have e20 : ub20 = st ub4 3 i (iI (pkF (coS kn m f a t sy c))) := by rw [e20]; exact congrArg _ e21
    refine h ub20 ⟨?_, ?_, ?_, ?_, ?_⟩ ?_
    · rw [e20, st_row (by decide), g1, epb]
    · rw [e20, st_row (by decide), g2, put_lo (by omega)]
    · rw [e20, st_at]
      unfold pkF cuF
      rw [put_c1 hf0 (by omega) e, put_c1 hf0 (by omega) e, put_c1 hf0 (by omega) e]
    · rw [e20, st_row (by decide), g4, put_7 hf0]
    · rw [e20, st_row (by decide), g5, put_8 hf0]
    · intro r j hrj
      rw [e20, st_get, if_neg (fun q => by omega)]
      exact gu r j hrj
theorem q_X0_put {n i : Nat} {ub : Nat → Nat → Int32} {P : (Nat → Nat → Int32) → Prop} {c : Cl} {kn : Bool} {x6 : Int32} {m f a : Int} {t : F3} {sy : Nat → Bool} (hi : i < n) (hn : n ≤ 144) (hm : Sm m) (hcc : CC ub i c) (hc : CB c) (hkn : ub 0 1 = 0 ↔ kn = false) (hsy : SY x6 sy) (hf : Bt f) (ha : 0 ≤ a) (ha2 : a ≤ f) (ht : B3 t) (h : ∀ ub', CC ub' i (putC kn m f a t sy c) → UFr ub ub' i → P ub') :
    wp_X0_put n ub (nI i) (iI (pkF t)) (iI f) (iI a) (iI m) x6 P := by
  have hcc' := hcc
  obtain ⟨c1, c2, c3, c4, c5⟩ := hcc
  have hi2 := vin (N := n) hi (by omega)
  unfold wp_X0_put
  refine w_ne (b := 0) hf.sm (by unfold Sm; omega) (fun e => h ub (by rw [put_z e]; exact hcc') (fun _ _ _ => rfl)) (fun e => ?_)
  refine q_whole hi hn c2 c4 (hc 3 (by omega)) (hc 7 (by omega)) ?_
  have main := put73 (kn := kn) (P := P) hi hn hm hcc' hc hsy e hf ha ha2 ht h
  cases kn with
  | false =>
    have k0 : ub 0 1 = 0 := hkn.mpr rfl
    refine bt k0 ⟨hi2, ?_⟩
    rw [ncl (by omega), c3]
    unfold wp_X0_put_34
    refine bt k0 ?_
    unfold wp_X0_put_54
    refine bt k0 ⟨hi2, ?_⟩
    rw [ncl (by omega), c4]
    exact main
  | true =>
    have k0 : ¬ ub 0 1 = 0 := fun q => absurd (hkn.mp q) (by decide)
    refine bf k0 ⟨hi2, ?_⟩
    rw [ncl (by omega), c1]
    unfold wp_X0_put_34
    refine bf k0 ⟨hi2, ?_⟩
    rw [ncl (by omega), c2]
    unfold wp_X0_put_54
    exact bf k0 main
