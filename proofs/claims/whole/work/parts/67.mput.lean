/-! one point of the model: an element is put -/
def CM (um : Nat → Nat → Int32) (j : Nat) (c : Cl) : Prop := (∀ k, k < 3 → um 3 (3 * j + k) = iI (c k)) ∧ um 4 j = iI (c 3) ∧ (∀ k, k < 3 → um 5 (3 * j + k) = iI (c (4 + k))) ∧ um 6 j = iI (c 7) ∧ um 7 j = iI (c 8)
def MFr (um um' : Nat → Nat → Int32) (j : Nat) : Prop := (∀ r, r ≠ 5 → r ≠ 6 → r ≠ 7 → r ≠ 12 → r ≠ 13 → r ≠ 14 → r ≠ 15 → um' r = um r) ∧ (∀ q, q ≠ j → um' 6 q = um 6 q ∧ um' 7 q = um 7 q) ∧ (∀ q, (q < 3 * j ∨ 3 * j + 3 ≤ q) → um' 5 q = um 5 q)
theorem MFr.cm {um um' : Nat → Nat → Int32} {j i : Nat} {c : Cl} (h : MFr um um' j) (hc : CM um i c) (hne : i ≠ j) : CM um' i c := by
  obtain ⟨h1, h2, h3⟩ := h
  obtain ⟨c1, c2, c3, c4, c5⟩ := hc
  refine ⟨fun k hk => ?_, ?_, fun k hk => ?_, ?_, ?_⟩
  · rw [h1 3 (by decide) (by decide) (by decide) (by decide) (by decide) (by decide) (by decide)]; exact c1 k hk
  · rw [h1 4 (by decide) (by decide) (by decide) (by decide) (by decide) (by decide) (by decide)]; exact c2
  · rw [h3 _ (by omega)]; exact c3 k hk
  · rw [(h2 i hne).1]; exact c4
  · rw [(h2 i hne).2]; exact c5
theorem nI_mul (a b : Nat) : nI a * nI b = nI (a * b) := (Int32.ofNat_mul a b).symm
theorem e_cell (g p : Nat) : (144 * nI g) + nI p = nI (144 * g + p) := by
  show nI 144 * nI g + nI p = _
  rw [nI_mul, nI_add]
theorem e_c3 (j k : Nat) : (3 * nI j) + nI k = nI (3 * j + k) := by
  show nI 3 * nI j + nI k = _
  rw [nI_mul, nI_add]
theorem q_alphaOf {um : Nat → Nat → Int32} {g p : Nat} {b o : Int} {P : Int32 → Prop} (hj : 144 * g + p < 1152) (h4 : um 4 (144 * g + p) = iI b) (h6 : um 6 (144 * g + p) = iI o) (hb : Bt b) (ho : Bt o) (h : P (iI (un b o))) : wp_X4_alphaOf um (nI g) (nI p) P := by
  unfold wp_X4_alphaOf
  rw [e_cell, ncl (by omega)]
  refine ⟨vin hj (by omega), fun v1 e1 => ⟨vin hj (by omega), fun v2 e2 => ?_⟩⟩
  rw [h4] at e1
  rw [h6] at e2
  subst e1 e2
  refine q_X4_mul hb ho ?_
  rw [iadd, isub]
  exact h
theorem mput66 {g p j : Nat} {um : Nat → Nat → Int32} {P : (Nat → Nat → Int32) → Prop} {c : Cl} {kn : Bool} {m f a : Int} {t : F3} {sy : Nat → Bool} (hg : g < 8) (hp : p < 144) (hj : j = 144 * g + p) (hm : 0 ≤ m) (hm2 : m ≤ 15) (hcm : CM um j c) (hc : CB c) (hkn : um 2 g = 0 ↔ kn = false) (hsy : ∀ k, k < 3 → (um 11 k = 0 ↔ sy k = false)) (hf0 : ¬ f = 0) (hf : Bt f) (ha : 0 ≤ a) (ha2 : a ≤ f) (rt : RF (um 12) t) (ht : B3 t) (h : ∀ um', CM um' j (putC kn m f a t sy c) → MFr um um' j → um' 12 = um 12 → P um') :
    wp_X4_put_66 P um (nI g) (nI p) (iI m) (iI f) (iI a) (nI j) (iI (waS c)) (iI (undS kn c)) (iI (hadS kn c)) := by
  obtain ⟨c1, c2, c3, c4, c5⟩ := hcm
  have hj2 : j < 1152 := by omega
  have hji := vin (N := 1152) hj2 (by omega)
  unfold wp_X4_put_66
  refine ⟨4, three 13 0 (fun k => iI (belF kn c k)) (fun N k um' hk hR hel hn => ?_) ?_⟩
  · rw [wp_X4_put_71]
    rw [Nat.zero_add] at hn
    rw [e_c3, ncl (show g < 2147483648 by omega), hR 2 (by decide), hR 5 (by decide), hR 3 (by decide), ncl (show 3 * j + k < 2147483648 by omega), c1 k hk, c3 k hk]
    have fin : ∀ z : Int32, z = iI (belF kn c k) → wp_X4_put_119 (wp_X4_put_71 (fun (um7 : Nat → Nat → Int32) => wp_X4_mix um7 (iI m) (fun (um9 : Nat → Nat → Int32) => (vp_in (nI j) 1152 ∧ (vp_in (nI j) 1152 ∧ ∀ um10 : Nat → Nat → Int32, um10 = st um9 6 (nI j).toNatClampNeg ((((((255 - iI f) * (um9 6 (nI j).toNatClampNeg)) + ((iI f - iI a) * iI (hadS kn c))) + (255 * iI a)) + 127) / 255) → (vp_in (nI j) 1152 ∧ (vp_in (nI j) 1152 ∧ wp_X4_mul (um10 7 (nI j).toNatClampNeg) (iI f) (fun r11 => (vp_in (nI j) 1152 ∧ ∀ um12 : Nat → Nat → Int32, um12 = st um10 7 (nI j).toNatClampNeg (((um10 7 (nI j).toNatClampNeg) + (iI f)) - r11) → wp_X4_alphaOf um12 (nI g) (nI p) (fun r13 => (∃ N216, wp_X4_put_216 (fun (um23 : Nat → Nat → Int32) => P um23) (iI f) (iI a) (nI j) (iI (waS c)) (iI (undS kn c)) r13 N216 um12 0)))))))))) (nI g) (nI p) (iI m) (iI f) (iI a) (nI j) (iI (waS c)) (iI (undS kn c)) (iI (hadS kn c)) N) um' (nI g) (nI p) (iI m) (iI f) (iI a) (nI j) (iI (waS c)) (iI (undS kn c)) (iI (hadS kn c)) (nI k) z (nI k) := by
      intro z ez
      unfold wp_X4_put_119
      refine ⟨i3i hk, fun u eu v4 e4 => ?_⟩
      subst eu e4
      rw [i3c hk, nI_1, ez]
      exact hn
    refine bf (i3n hk) ⟨vin hg (by omega), ?_⟩
    refine ⟨fun q => ⟨vin (by omega) (by omega), fin _ ?_⟩, fun q => ⟨vin (by omega) (by omega), fin _ ?_⟩⟩
    · have := hkn.mp q
      unfold belF
      rw [this, if_neg (by decide)]
    · have : kn = true := by
        cases kn with
        | true => rfl
        | false => exact absurd (hkn.mpr rfl) q
      unfold belF
      rw [this, if_pos rfl]
  rw [wp_X4_put_71]
  refine bt (by decide) ?_
  have r1 : RF (s3 um 13 0 (fun k => iI (belF kn c k)) 13) (belF kn c) := RF_s3 (fun k _ => rfl)
  have f1 : ∀ r, r ≠ 13 → s3 um 13 0 (fun k => iI (belF kn c k)) r = um r := fun r hr => s3_row hr
  generalize s3 um 13 0 (fun k => iI (belF kn c k)) = u1 at r1 f1 ⊢
  refine q_X4_mix hm hm2 r1 (by rw [f1 12 (by decide)]; exact rt) (hc.bel kn) ht (fun u2 f2 r2 => ?_)
  have r13 : RF (u2 13) (belF kn c) := by rw [f2 13 (by decide) (by decide)]; exact r1
  have f3 : ∀ r, r ≠ 13 → r ≠ 14 → r ≠ 15 → u2 r = um r := fun r h13 h14 h15 => by rw [f2 r h14 h15, f1 r h13]
  clear f2 r1 f1 u1
  refine ⟨hji, hji, fun um10 e10 => ⟨hji, hji, ?_⟩⟩
  rw [ncl (by omega)] at e10 ⊢
  rw [f3 6 (by decide) (by decide) (by decide), c4, e_ow hf ha ha2 (hc 7 (by omega)) (hc.had kn)] at e10
  have e7 : um10 7 j = iI (c 8) := by rw [e10, st_row (by decide), f3 7 (by decide) (by decide) (by decide), c5]
  rw [e7]
  refine q_X4_mul (hc 8 (by omega)) hf ⟨hji, fun um12 e12 => ?_⟩
  rw [iadd, isub] at e12
  have e12 : um12 = st um10 7 j (iI (un (c 8) f)) := e12
  have hob : Bt (owS kn f a c) := owV_b hf ha ha2 (hc 7 (by omega)) (hc.had kn)
  have hnb : Bt (nowS kn f a c) := un_b (hc 3 (by omega)) hob
  have g6 : um12 6 j = iI (owS kn f a c) := by rw [e12, st_row (by decide), e10, st_at]; rfl
  have g7 : um12 7 j = iI (un (c 8) f) := by rw [e12, st_at]
  have gr : ∀ r, r ≠ 6 → r ≠ 7 → r ≠ 13 → r ≠ 14 → r ≠ 15 → um12 r = um r := fun r h6 h7 h13 h14 h15 => by rw [e12, st_row h7, e10, st_row h6, f3 r h13 h14 h15]
  have g13 : RF (um12 13) (belF kn c) := by rw [e12, st_row (by decide), e10, st_row (by decide)]; exact r13
  have g14 : RF (um12 14) (blS m (belF kn c) t) := by rw [e12, st_row (by decide), e10, st_row (by decide)]; exact r2
  have gq : ∀ q, q ≠ j → um12 6 q = um 6 q ∧ um12 7 q = um 7 q := fun q hq => by
    refine ⟨?_, ?_⟩
    · rw [e12, st_row (by decide), e10, st_el hq, f3 6 (by decide) (by decide) (by decide)]
    · rw [e12, st_el hq, e10, st_row (by decide), f3 7 (by decide) (by decide) (by decide)]
  refine q_alphaOf (by omega) (by rw [gr 4 (by decide) (by decide) (by decide) (by decide) (by decide), ← hj]; exact c2) (by rw [← hj]; exact g6) (hc 3 (by omega)) hob ?_
  show ∃ N216, wp_X4_put_216 (fun um23 => P um23) (iI f) (iI a) (nI j) (iI (waS c)) (iI (undS kn c)) (iI (nowS kn f a c)) N216 um12 0
  by_cases e : nowS kn f a c = 0
  · refine ⟨1, ?_⟩
    rw [wp_X4_put_216]
    refine bf (by decide) (w_le (b := 0) hnb.sm (by unfold Sm; omega) (fun _ => ?_) (fun q => by omega))
    refine h um12 ⟨fun k hk => ?_, ?_, fun k hk => ?_, ?_, ?_⟩ ⟨fun r h5 h6 h7 h12 h13 h14 h15 => gr r h6 h7 h13 h14 h15, gq, fun q hq => by rw [gr 5 (by decide) (by decide) (by decide) (by decide) (by decide)]⟩ (gr 12 (by decide) (by decide) (by decide) (by decide) (by decide))
    · rw [gr 3 (by decide) (by decide) (by decide) (by decide) (by decide), put_lo (by omega)]; exact c1 k hk
    · rw [gr 4 (by decide) (by decide) (by decide) (by decide) (by decide), put_lo (by omega)]; exact c2
    · rw [gr 5 (by decide) (by decide) (by decide) (by decide) (by decide), put_c0 hf0 hk e]; exact c3 k hk
    · rw [put_7 hf0]; exact g6
    · rw [put_8 hf0]; exact g7
  · have hn0 : 0 < nowS kn f a c := by unfold Bt at hnb; omega
    refine ⟨4, three 5 (3 * j) (fun k => iI (coS kn m f a t sy c k)) (fun N k um' hk hR hel hn => ?_) ?_⟩
    · rw [wp_X4_put_216]
      refine bf (i3n hk) (w_le (b := 0) hnb.sm (by unfold Sm; omega) (fun q => by omega) (fun _ => ⟨i3i hk, ?_⟩))
      have h11 : um' 11 k = um 11 k := by rw [hR 11 (by decide), gr 11 (by decide) (by decide) (by decide) (by decide) (by decide)]
      have h12 : um' 12 k = iI (t k) := by rw [hR 12 (by decide), gr 12 (by decide) (by decide) (by decide) (by decide) (by decide)]; exact rt k hk
      have h13 : um' 13 k = iI (belF kn c k) := by rw [hR 13 (by decide)]; exact g13 k hk
      have h14 : um' 14 k = iI (blS m (belF kn c) t k) := by rw [hR 14 (by decide)]; exact g14 k hk
      have h5 : um' 5 (3 * j + k) = iI (c (4 + k)) := by rw [hel, gr 5 (by decide) (by decide) (by decide) (by decide) (by decide)]; exact c3 k hk
      have fin : ∀ s b : Int, Bt s → Bt b → s = (if sy k = true then belF kn c k else t k) → b = (if sy k = true then belF kn c k else blS m (belF kn c) t k) → wp_X4_put_283 (wp_X4_put_216 (fun um23 => P um23) (iI f) (iI a) (nI j) (iI (waS c)) (iI (undS kn c)) (iI (nowS kn f a c)) N) um' (iI f) (iI a) (nI j) (iI (waS c)) (iI (undS kn c)) (iI (nowS kn f a c)) (nI k) (iI s) (iI b) := by
        intro s b hs hb es eb
        unfold wp_X4_put_283
        rw [e_c3, ncl (show 3 * j + k < 2147483648 by omega), i3c hk, h5, h13]
        refine ⟨vin (by omega) (by omega), i3i hk, fun v14 e14 => ?_⟩
        have hl := la_b (hc.und kn) hs hb
        have hsm := sm_b (cu := c (4 + k)) (b := belF kn c k) hf ha ha2 hc.wa (hc.und kn) (hc (4 + k) (by omega)) (hc.bel kn k hk) hl.1 hl.2
        rw [e_255m, e_255m, isub, imul, imul, imul, imul, imul, imul, iadd, iadd, imul, iadd] at e14
        have e14 : v14 = iI (smV f a (waS c) (undS kn c) (c (4 + k)) (belF kn c k) (laV (undS kn c) s b)) := e14
        subst e14
        rw [e_255b]
        refine ⟨w_nz (by unfold Sm; unfold Bt at hnb; omega) (by omega), fun v15 e15 => ?_⟩
        rw [e_vq hsm.1 hsm.2 hnb] at e15
        subst e15
        have hq := vq_b hsm.1 hsm.2 hn0 hnb.2
        have fin2 : ∀ z : Int, z = coS kn m f a t sy c k → wp_X4_put_392 (wp_X4_put_216 (fun um23 => P um23) (iI f) (iI a) (nI j) (iI (waS c)) (iI (undS kn c)) (iI (nowS kn f a c)) N) um' (iI f) (iI a) (nI j) (iI (waS c)) (iI (undS kn c)) (iI (nowS kn f a c)) (nI k) (iI z) (nI (3 * j + k)) := by
          intro z ez
          unfold wp_X4_put_392
          refine ⟨vin (by omega) (by omega), fun u eu v17 e17 => ?_⟩
          subst eu e17
          rw [ncl (show 3 * j + k < 2147483648 by omega), nI_1, ez]
          exact hn
        have ec : coS kn m f a t sy c k = vV (smV f a (waS c) (undS kn c) (c (4 + k)) (belF kn c k) (laV (undS kn c) s b)) (nowS kn f a c) := by rw [es, eb]; rfl
        refine w_le (b := 255) (by unfold Sm; omega) (by unfold Sm; omega) (fun q => fin2 _ ?_) (fun q => fin2 255 ?_)
        · rw [ec]
          unfold vV
          split <;> omega
        · rw [ec]
          unfold vV
          rw [if_neg (by omega)]
      have fin3 : ∀ s : Int, Bt s → s = (if sy k = true then belF kn c k else t k) → wp_X4_put_254 (wp_X4_put_216 (fun um23 => P um23) (iI f) (iI a) (nI j) (iI (waS c)) (iI (undS kn c)) (iI (nowS kn f a c)) N) um' (iI f) (iI a) (nI j) (iI (waS c)) (iI (undS kn c)) (iI (nowS kn f a c)) (nI k) (iI s) := by
        intro s hs es
        unfold wp_X4_put_254
        rw [i3c hk, h11, h13, h14]
        refine ⟨i3i hk, fun q => ⟨i3i hk, fin s _ hs (blS_b (hc.bel kn) ht k hk) es ?_⟩, fun q => ⟨i3i hk, fin s _ hs (hc.bel kn k hk) es ?_⟩⟩
        · rw [(hsy k hk).mp q, if_neg (by decide)]
        · have : sy k = true := by
            cases e5 : sy k with
            | true => rfl
            | false => exact absurd ((hsy k hk).mpr e5) q
          rw [this, if_pos rfl]
      rw [i3c hk, h11, h12, h13]
      refine ⟨fun q => ⟨i3i hk, fin3 _ (ht k hk) ?_⟩, fun q => ⟨i3i hk, fin3 _ (hc.bel kn k hk) ?_⟩⟩
      · rw [(hsy k hk).mp q, if_neg (by decide)]
      · have : sy k = true := by
          cases e5 : sy k with
          | true => rfl
          | false => exact absurd ((hsy k hk).mpr e5) q
        rw [this, if_pos rfl]
    · rw [wp_X4_put_216]
      refine bt (by decide) ?_
      refine h _ ⟨fun k hk => ?_, ?_, fun k hk => ?_, ?_, ?_⟩ ⟨fun r h5 h6 h7 h12 h13 h14 h15 => by rw [s3_row h5, gr r h6 h7 h13 h14 h15], fun q hq => by rw [s3_row (by decide), s3_row (by decide)]; exact gq q hq, fun q hq => by rw [s3_el hq, gr 5 (by decide) (by decide) (by decide) (by decide) (by decide)]⟩ (by rw [s3_row (by decide)]; exact gr 12 (by decide) (by decide) (by decide) (by decide) (by decide))
      · rw [s3_row (by decide), gr 3 (by decide) (by decide) (by decide) (by decide) (by decide), put_lo (by omega)]; exact c1 k hk
      · rw [s3_row (by decide), gr 4 (by decide) (by decide) (by decide) (by decide) (by decide), put_lo (by omega)]; exact c2
      · rw [s3_at hk, put_c1 hf0 hk e]
      · rw [s3_row (by decide), put_7 hf0]; exact g6
      · rw [s3_row (by decide), put_8 hf0]; exact g7
theorem q_X4_put {g p j : Nat} {um : Nat → Nat → Int32} {P : (Nat → Nat → Int32) → Prop} {c : Cl} {kn : Bool} {m f a : Int} {t : F3} {sy : Nat → Bool} (hg : g < 8) (hp : p < 144) (hj : j = 144 * g + p) (hm : 0 ≤ m) (hm2 : m ≤ 15) (hcm : CM um j c) (hc : CB c) (hkn : um 2 g = 0 ↔ kn = false) (hsy : ∀ k, k < 3 → (um 11 k = 0 ↔ sy k = false)) (hf : Bt f) (ha : 0 ≤ a) (ha2 : a ≤ f) (rt : RF (um 12) t) (ht : B3 t) (h : ∀ um', CM um' j (putC kn m f a t sy c) → MFr um um' j → um' 12 = um 12 → P um') :
    wp_X4_put um (nI g) (nI p) (iI m) (iI f) (iI a) P := by
  have hcm' := hcm
  obtain ⟨c1, c2, c3, c4, c5⟩ := hcm
  have hj2 : j < 1152 := by omega
  have hji := vin (N := 1152) hj2 (by omega)
  have hgi := vin (N := 8) hg (by omega)
  unfold wp_X4_put
  refine w_ne (b := 0) hf.sm (by unfold Sm; omega) (fun e => h um (by rw [put_z e]; exact hcm') ⟨fun _ _ _ _ _ _ _ _ => rfl, fun _ _ => ⟨rfl, rfl⟩, fun _ _ => rfl⟩ rfl) (fun e v1 e1 => ?_)
  rw [e_cell, ← hj] at e1
  subst e1
  refine q_alphaOf (by omega) (by rw [← hj]; exact c2) (by rw [← hj]; exact c4) (hc 3 (by omega)) (hc 7 (by omega)) ⟨hgi, ?_⟩
  have main := mput66 (kn := kn) (P := P) hg hp hj hm hm2 hcm' hc hkn hsy e hf ha ha2 rt ht h
  rw [ncl (show g < 2147483648 by omega), ncl (show j < 2147483648 by omega)]
  cases kn with
  | false =>
    have k0 : um 2 g = 0 := hkn.mpr rfl
    refine bt k0 ?_
    unfold wp_X4_put_44
    rw [ncl (show g < 2147483648 by omega), ncl (show j < 2147483648 by omega)]
    refine ⟨hgi, bt k0 ⟨hji, ?_⟩⟩
    rw [c4]
    exact main
  | true =>
    have k0 : ¬ um 2 g = 0 := fun q => absurd (hkn.mp q) (by decide)
    refine bf k0 ⟨hji, ?_⟩
    unfold wp_X4_put_44
    rw [ncl (show g < 2147483648 by omega), ncl (show j < 2147483648 by omega)]
    refine ⟨hgi, bf k0 ?_⟩
    rw [c2]
    exact main
