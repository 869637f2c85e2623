/-! bits of a colour -/
theorem setb0 (a b c v : BitVec 8) : (((a.setWidth 32 ||| (b.setWidth 32 <<< 8)) ||| (c.setWidth 32 <<< 16)) &&& (255#32 ^^^ (BitVec.allOnes 32))) ||| v.setWidth 32 = (v.setWidth 32 ||| (b.setWidth 32 <<< 8)) ||| (c.setWidth 32 <<< 16) := by
  apply BitVec.eq_of_getLsbD_eq
  intro i hi
  have h255 : ∀ j, j < 32 → (255#32).getLsbD j = decide (j < 8) := by decide
  simp only [BitVec.getLsbD_or, BitVec.getLsbD_and, BitVec.getLsbD_xor, BitVec.getLsbD_shiftLeft, BitVec.getLsbD_setWidth, BitVec.getLsbD_allOnes, h255 i hi]
  by_cases h8 : i < 8
  · simp [h8, hi, show i < 16 by omega]
  · by_cases h16 : i < 16
    · simp [h8, hi, h16, BitVec.getLsbD_of_ge a i (by omega), BitVec.getLsbD_of_ge v i (by omega)]
    · simp [h8, hi, h16, BitVec.getLsbD_of_ge a i (by omega), BitVec.getLsbD_of_ge v i (by omega)]
theorem setb1 (a b c v : BitVec 8) : (((a.setWidth 32 ||| (b.setWidth 32 <<< 8)) ||| (c.setWidth 32 <<< 16)) &&& ((255#32 <<< 8) ^^^ (BitVec.allOnes 32))) ||| (v.setWidth 32 <<< 8) = (a.setWidth 32 ||| (v.setWidth 32 <<< 8)) ||| (c.setWidth 32 <<< 16) := by
  apply BitVec.eq_of_getLsbD_eq
  intro i hi
  have h255 : ∀ j, j < 32 → (255#32).getLsbD j = decide (j < 8) := by decide
  simp only [BitVec.getLsbD_or, BitVec.getLsbD_and, BitVec.getLsbD_xor, BitVec.getLsbD_shiftLeft, BitVec.getLsbD_setWidth, BitVec.getLsbD_allOnes, h255 (i - 8) (by omega)]
  by_cases h8 : i < 8
  · simp [h8, hi, show i < 16 by omega]
  · by_cases h16 : i < 16
    · simp [h8, hi, h16, BitVec.getLsbD_of_ge a i (by omega), show i - 8 < 8 by omega]
    · simp [h8, hi, h16, BitVec.getLsbD_of_ge a i (by omega), BitVec.getLsbD_of_ge v (i-8) (by omega), BitVec.getLsbD_of_ge b (i-8) (by omega), show ¬ i - 8 < 8 by omega]
theorem setb2 (a b c v : BitVec 8) : (((a.setWidth 32 ||| (b.setWidth 32 <<< 8)) ||| (c.setWidth 32 <<< 16)) &&& ((255#32 <<< 16) ^^^ (BitVec.allOnes 32))) ||| (v.setWidth 32 <<< 16) = (a.setWidth 32 ||| (b.setWidth 32 <<< 8)) ||| (v.setWidth 32 <<< 16) := by
  apply BitVec.eq_of_getLsbD_eq
  intro i hi
  have h255 : ∀ j, j < 32 → (255#32).getLsbD j = decide (j < 8) := by decide
  simp only [BitVec.getLsbD_or, BitVec.getLsbD_and, BitVec.getLsbD_xor, BitVec.getLsbD_shiftLeft, BitVec.getLsbD_setWidth, BitVec.getLsbD_allOnes, h255 (i - 16) (by omega)]
  by_cases h8 : i < 8
  · simp [h8, hi, show i < 16 by omega]
  · by_cases h16 : i < 16
    · simp [h8, hi, h16]
    · by_cases h24 : i < 24
      · simp [h8, hi, h16, BitVec.getLsbD_of_ge a i (by omega), BitVec.getLsbD_of_ge b (i-8) (by omega), show i - 16 < 8 by omega]
      · simp [h8, hi, h16, BitVec.getLsbD_of_ge a i (by omega), BitVec.getLsbD_of_ge b (i-8) (by omega), BitVec.getLsbD_of_ge c (i-16) (by omega), BitVec.getLsbD_of_ge v (i-16) (by omega), show ¬ i - 16 < 8 by omega]
def bvB (z : Int) : BitVec 8 := BitVec.ofInt 8 z
theorem iI_bv {z : Int} (h0 : 0 ≤ z) (h1 : z ≤ 255) : (Int32.ofInt z).toBitVec = (bvB z).setWidth 32 := by
  apply BitVec.eq_of_toNat_eq
  show (BitVec.ofInt 32 z).toNat = _
  rw [BitVec.toNat_setWidth]
  unfold bvB
  rw [BitVec.toNat_ofInt, BitVec.toNat_ofInt]
  omega

theorem shl_bv (x : Int32) {s : Int32} (k : Nat) (hs : ((s &&& 31).toBitVec.smod 32).toNat = k) : (x <<< (s &&& 31)).toBitVec = x.toBitVec <<< k := by
  show (x.toBitVec <<< ((s &&& 31).toBitVec.smod 32)) = _
  rw [BitVec.shiftLeft_eq', hs]
theorem e_set1 {r g b v : Int} (hr : 0 ≤ r ∧ r ≤ 255) (hg : 0 ≤ g ∧ g ≤ 255) (hb : 0 ≤ b ∧ b ≤ 255) (hv : 0 ≤ v ∧ v ≤ 255) : (((iI r ||| (iI g <<< ((8 : Int32) &&& 31))) ||| (iI b <<< ((16 : Int32) &&& 31))) &&& ((255 <<< ((8 : Int32) &&& 31)) ^^^ (-1))) ||| (iI v <<< ((8 : Int32) &&& 31)) = (iI r ||| (iI v <<< ((8 : Int32) &&& 31))) ||| (iI b <<< ((16 : Int32) &&& 31)) := by
  apply Int32.toBitVec.inj
  have := setb1 (bvB r) (bvB g) (bvB b) (bvB v)
  rw [← iI_bv hr.1 hr.2, ← iI_bv hg.1 hg.2, ← iI_bv hb.1 hb.2, ← iI_bv hv.1 hv.2] at this
  simp only [Int32.toBitVec_or, Int32.toBitVec_and, Int32.toBitVec_xor]
  rw [shl_bv (iI g) 8 (by decide), shl_bv (iI b) 16 (by decide), shl_bv (iI v) 8 (by decide), shl_bv 255 8 (by decide)]
  exact this
theorem e_set0 {r g b v : Int} (hr : 0 ≤ r ∧ r ≤ 255) (hg : 0 ≤ g ∧ g ≤ 255) (hb : 0 ≤ b ∧ b ≤ 255) (hv : 0 ≤ v ∧ v ≤ 255) : (((iI r ||| (iI g <<< ((8 : Int32) &&& 31))) ||| (iI b <<< ((16 : Int32) &&& 31))) &&& ((255 <<< ((0 : Int32) &&& 31)) ^^^ (-1))) ||| (iI v <<< ((0 : Int32) &&& 31)) = (iI v ||| (iI g <<< ((8 : Int32) &&& 31))) ||| (iI b <<< ((16 : Int32) &&& 31)) := by
  apply Int32.toBitVec.inj
  have := setb0 (bvB r) (bvB g) (bvB b) (bvB v)
  rw [← iI_bv hr.1 hr.2, ← iI_bv hg.1 hg.2, ← iI_bv hb.1 hb.2, ← iI_bv hv.1 hv.2] at this
  simp only [Int32.toBitVec_or, Int32.toBitVec_and, Int32.toBitVec_xor]
  rw [shl_bv (iI g) 8 (by decide), shl_bv (iI b) 16 (by decide), shl_bv (iI v) 0 (by decide), shl_bv 255 0 (by decide), BitVec.shiftLeft_zero, BitVec.shiftLeft_zero]
  exact this
theorem e_set2 {r g b v : Int} (hr : 0 ≤ r ∧ r ≤ 255) (hg : 0 ≤ g ∧ g ≤ 255) (hb : 0 ≤ b ∧ b ≤ 255) (hv : 0 ≤ v ∧ v ≤ 255) : (((iI r ||| (iI g <<< ((8 : Int32) &&& 31))) ||| (iI b <<< ((16 : Int32) &&& 31))) &&& ((255 <<< ((16 : Int32) &&& 31)) ^^^ (-1))) ||| (iI v <<< ((16 : Int32) &&& 31)) = (iI r ||| (iI g <<< ((8 : Int32) &&& 31))) ||| (iI v <<< ((16 : Int32) &&& 31)) := by
  apply Int32.toBitVec.inj
  have := setb2 (bvB r) (bvB g) (bvB b) (bvB v)
  rw [← iI_bv hr.1 hr.2, ← iI_bv hg.1 hg.2, ← iI_bv hb.1 hb.2, ← iI_bv hv.1 hv.2] at this
  simp only [Int32.toBitVec_or, Int32.toBitVec_and, Int32.toBitVec_xor]
  rw [shl_bv (iI g) 8 (by decide), shl_bv (iI b) 16 (by decide), shl_bv (iI v) 16 (by decide), shl_bv 255 16 (by decide)]
  exact this

theorem e_setband {f : F3} {k : Nat} {v : Int} (hf : B3 f) (hk : k < 3) (hv : Bt v) : (iI (pkF f) &&& ((255 <<< ((8 * nI k) &&& 31)) ^^^ (-1))) ||| (iI v <<< ((8 * nI k) &&& 31)) = iI (pkF (fun j => if j = k then v else f j)) := by
  have h0 := hf 0 (by omega)
  have h1 := hf 1 (by omega)
  have h2 := hf 2 (by omega)
  have ep := e_pack h0 h1 h2
  rcases (show k = 0 ∨ k = 1 ∨ k = 2 by omega) with rfl | rfl | rfl
  · rw [show (8 : Int32) * nI 0 = 0 from by decide]
    unfold pkF
    rw [← ep, e_set0 h0 h1 h2 hv, e_pack hv h1 h2]
    rfl
  · rw [show (8 : Int32) * nI 1 = 8 from by decide]
    unfold pkF
    rw [← ep, e_set1 h0 h1 h2 hv, e_pack h0 hv h2]
    rfl
  · rw [show (8 : Int32) * nI 2 = 16 from by decide]
    unfold pkF
    rw [← ep, e_set2 h0 h1 h2 hv, e_pack h0 h1 hv]
    rfl
theorem col3 {z : Int} (h0 : 0 ≤ z) (h1 : z ≤ 16777215) : ∃ f : F3, B3 f ∧ z = pkF f := by
  refine ⟨fun k => if k = 0 then z % 256 else if k = 1 then z / 256 % 256 else z / 65536 % 256, fun k hk => ?_, ?_⟩
  · rcases (show k = 0 ∨ k = 1 ∨ k = 2 by omega) with rfl | rfl | rfl
    · show Bt (z % 256); unfold Bt; omega
    · show Bt (z / 256 % 256); unfold Bt; omega
    · show Bt (z / 65536 % 256); unfold Bt; omega
  · show z = pkc (z % 256) (z / 256 % 256) (z / 65536 % 256)
    unfold pkc
    omega
theorem e_bandv {f : F3} {k : Nat} (hf : B3 f) (hk : k < 3) : (iI (pkF f) >>> ((8 * nI k) &&& 31)) &&& 255 = iI (f k) := q_bandF (P := fun x => x = iI (f k)) hf hk rfl
/-! the calls that change little -/
abbrev U2 := Nat → Nat → Int32
abbrev U3 := Nat → Nat → Nat → Int32
abbrev NT := U2 → U3 → (Nat → Int64) → U2 → Prop
def tlS (w h d bd : Nat) (mk : Bool) (md : Int32) (z : Int) : Int32 := if z = 0 then nI w else if z = 1 then nI h else if z = 2 then nI d else if z = 3 then nI bd else if z = 4 then (if mk = true then 1 else 0) else md
theorem mk_t {x : Int32} {mk : Bool} (h : x = 0 ↔ mk = false) (q : ¬ x = 0) : mk = true := by
  cases mk with
  | true => rfl
  | false => exact absurd (h.mpr rfl) q
theorem case_told {L : Nat} {xs : Nat → Int32} {w h n : Nat} {NX : NT} {x4 : Int32} {ua : U2} {uL : U3} {uo : Nat → Int64} {um : U2} (hR : RR w h n ua uL um) (i1 : vp_in (x4 + 1) L) (hN : ∀ ua' uL' uo' um', RR w h n ua' uL' um' → NX ua' uL' uo' um') : wp_case_told L xs n NX x4 ua uL uo um := by
  obtain ⟨d, rg, bd, cel, kn, mk, mB, cov, t, sy, md, hI, hC, hM, hG⟩ := hR
  have hRt : ∀ v, RR w h n ua uL (st um 0 0 v) := fun v => ⟨d, rg, bd, cel, kn, mk, mB, cov, t, sy, md, hI, hC, hM.thr, hG.thr⟩
  obtain ⟨⟨a0, a1, a2, a3, a4, a5, a6, a7, a8, a9⟩, -⟩ := hC
  obtain ⟨⟨m1, m2, m3, m4, m5, m6, m7⟩, -⟩ := hM
  unfold wp_case_told wp_L_told
  refine ⟨i1, ?_⟩
  obtain ⟨z, hz, ez⟩ := ex_iI (xs (x4 + 1).toNatClampNeg)
  rw [ez]
  have M : ∀ (P : Int32 → U2 → Prop), (0 ≤ z → z ≤ 5 → P (tlS w h d bd mk md z) (st um 0 0 0)) → (¬ (0 ≤ z ∧ z ≤ 5) → P 0 (st um 0 0 1)) → wp_X4_told um (iI z) P := by
    intro P h1 h2
    have bad : ¬ (0 ≤ z ∧ z ≤ 5) → wp_X4_told_15 P um (iI z) 1 := by
      intro q
      unfold wp_X4_told_15
      intro u e
      subst e
      exact bf (by rw [st_at]; decide) (h2 q)
    unfold wp_X4_told wp_X4_told_10
    refine w_lt (b := 0) hz (by unfold Sm; omega) (fun q => bad (by omega)) (fun q => w_le (b := 5) hz (by unfold Sm; omega) (fun q2 => ?_) (fun q2 => bad (by omega)))
    have h1 := h1 q q2
    unfold wp_X4_told_15
    intro u e
    have g1 : u 0 1 = nI w := by rw [e, st_el (by decide)]; exact m1
    have g2 : u 0 2 = nI h := by rw [e, st_el (by decide)]; exact m2
    have g3 : u 0 3 = nI bd := by rw [e, st_el (by decide)]; exact m3
    have g4 : u 0 4 = nI d := by rw [e, st_el (by decide)]; exact m4
    have g6 : u 0 6 = 0 ↔ mk = false := by rw [e, st_el (by decide)]; exact m6
    have g7 : u 0 7 = md := by rw [e, st_el (by decide)]; exact m7
    have g0 : u 0 0 = 0 := by rw [e, st_at]
    rw [← e] at h1
    rw [g0, g1, g2, g3, g4, g7]
    unfold tlS at h1
    refine bt (by decide) (w_le (a := 3) (by unfold Sm; omega) hz (fun q3 => ?_) (fun q3 => ?_))
    · rw [if_neg (by omega), if_neg (by omega), if_neg (by omega)] at h1
      refine w_ne (b := 3) hz (by unfold Sm; omega) (fun q4 => ?_) (fun q4 => ?_)
      · rw [if_pos q4] at h1; exact h1
      rw [if_neg q4] at h1
      refine w_ne (b := 4) hz (by unfold Sm; omega) (fun q5 => ?_) (fun q5 => ?_)
      · rw [if_pos q5] at h1
        refine ⟨fun q6 => ?_, fun q6 => ?_⟩
        · rw [g6.mp q6, if_neg (by decide)] at h1; exact h1
        · rw [mk_t g6 q6, if_pos rfl] at h1; exact h1
      · rw [if_neg q5] at h1; exact h1
    · refine w_ne (b := 0) hz (by unfold Sm; omega) (fun q4 => ?_) (fun q4 => ?_)
      · rw [if_pos q4] at h1; exact h1
      rw [if_neg q4] at h1
      refine w_ne (b := 1) hz (by unfold Sm; omega) (fun q5 => ?_) (fun q5 => ?_)
      · rw [if_pos q5] at h1; exact h1
      · rw [if_neg q5, if_pos (by omega)] at h1; exact h1
  have good : 0 ≤ z → z ≤ 5 → ∀ v, v = tlS w h d bd mk md z → wp_X4_told um (iI z) (fun b6 um4 => wp_X4_thrown um4 (fun tt => (tt = 0 ∧ (((0 : Int32) = 0 → vp_updL uo 0 v.toInt64 0 = b6.toInt64) ∧ NX ua uL (vp_updL uo 0 v.toInt64) um4)))) := by
    intro q q2 v ev
    refine M _ (fun _ _ => ⟨st_at, fun _ => by rw [o_0, ev], hN _ _ _ _ (hRt 0)⟩) (fun q3 => absurd ⟨q, q2⟩ q3)
  unfold wp_X3_told
  have hS : ∀ c : Int, 0 ≤ c → c ≤ 5 → Sm c := fun c h1 h2 => by unfold Sm; omega
  refine w_eq (b := 0) hz (hS _ (by omega) (by omega)) (fun e => good (by omega) (by omega) _ (by rw [a0]; unfold tlS; rw [if_pos e])) (fun e0 => ?_)
  refine w_eq (b := 1) hz (hS _ (by omega) (by omega)) (fun e => good (by omega) (by omega) _ (by rw [a1]; unfold tlS; rw [if_neg e0, if_pos e])) (fun e1 => ?_)
  refine w_eq (b := 2) hz (hS _ (by omega) (by omega)) (fun e => good (by omega) (by omega) _ (by rw [a7]; unfold tlS; rw [if_neg e0, if_neg e1, if_pos e])) (fun e2 => ?_)
  refine w_eq (b := 3) hz (hS _ (by omega) (by omega)) (fun e => good (by omega) (by omega) _ (by rw [a6]; unfold tlS; rw [if_neg e0, if_neg e1, if_neg e2, if_pos e])) (fun e3 => ?_)
  refine w_eq (b := 4) hz (hS _ (by omega) (by omega)) (fun e => ?_) (fun e4 => ?_)
  · refine ⟨fun q => good (by omega) (by omega) _ ?_, fun q => good (by omega) (by omega) _ ?_⟩
    · unfold tlS; rw [if_neg e0, if_neg e1, if_neg e2, if_neg e3, if_pos e, a3.mp q, if_neg (by decide)]
    · unfold tlS; rw [if_neg e0, if_neg e1, if_neg e2, if_neg e3, if_pos e, mk_t a3 q, if_pos rfl]
  refine w_eq (b := 5) hz (hS _ (by omega) (by omega)) (fun e => good (by omega) (by omega) _ (by rw [a9]; unfold tlS; rw [if_neg e0, if_neg e1, if_neg e2, if_neg e3, if_neg e4])) (fun e5 => ?_)
  exact ⟨rfl, M _ (fun q q2 => by omega) (fun _ => ⟨st_at, fun q => absurd q (by decide), hN _ _ _ _ (hRt 1)⟩)⟩
theorem case_bound {L : Nat} {xs : Nat → Int32} {w h n : Nat} {NX : NT} {x4 : Int32} {ua : U2} {uL : U3} {uo : Nat → Int64} {um : U2} (hR : RR w h n ua uL um) (i1 : vp_in (x4 + 1) L) (hN : ∀ ua' uL' uo' um', RR w h n ua' uL' um' → NX ua' uL' uo' um') : wp_case_bound L xs n NX x4 ua uL uo um := by
  obtain ⟨d, rg, bd, cel, kn, mk, mB, cov, t, sy, md, hI, hC, hM, hG⟩ := hR
  unfold wp_case_bound wp_L_bound wp_X3_bound
  refine ⟨i1, ?_⟩
  obtain ⟨z, hz, ez⟩ := ex_iI (xs (x4 + 1).toNatClampNeg)
  rw [ez]
  have bad : ¬ (1 ≤ z ∧ z ≤ 6) → wp_X4_bound um (iI z) (fun um4 => wp_X4_thrown um4 (fun tt => (tt = 1 ∧ NX ua uL uo um4))) := by
    intro q
    have B : wp_X4_bound_17 (fun um4 => wp_X4_thrown um4 (fun tt => (tt = 1 ∧ NX ua uL uo um4))) um (iI z) 1 := by
      unfold wp_X4_bound_17
      intro u e
      refine bf (by rw [e, st_at]; decide) (fun u3 e3 => ?_)
      have e4 : u3 = u := by
        rw [e3]
        funext r i
        rw [st_get]
        split
        · rename_i h5; rw [h5.1, h5.2]
        · rfl
      rw [e4, e]
      exact ⟨st_at, hN _ _ _ _ ⟨d, rg, bd, cel, kn, mk, mB, cov, t, sy, md, hI, hC, hM.thr, hG.thr⟩⟩
    unfold wp_X4_bound wp_X4_bound_12
    exact w_lt (b := 1) hz (by unfold Sm; omega) (fun _ => B) (fun q1 => w_le (b := 6) hz (by unfold Sm; omega) (fun q2 => absurd ⟨q1, q2⟩ q) (fun _ => B))
  refine w_lt (b := 1) hz (by unfold Sm; omega) (fun q => ⟨rfl, bad (by omega)⟩) (fun q => w_le (b := 6) hz (by unfold Sm; omega) (fun q2 ua1 e1 => ?_) (fun q2 => ⟨rfl, bad (by omega)⟩))
  have ezn : iI z = nI z.toNat := iI_nn (by omega)
  have hR2 : RR w h n ua1 uL (st (st um 0 0 0) 0 3 (iI z)) := by
    obtain ⟨hc0, hc1, hc2, hcL⟩ := hC
    obtain ⟨a0, a1, a2, a3, a4, a5, a6, a7, a8, a9⟩ := hc0
    obtain ⟨hm0, hm1⟩ := hM
    obtain ⟨m1, m2, m3, m4, m5, m6, m7⟩ := hm0
    obtain ⟨I1, ⟨I2, I3, I4, I5, I6, I7⟩, I8⟩ := hI
    have r0 : RMs (st (st um 0 0 0) 0 3 (iI z)) w h d rg z.toNat mk mB cov t sy md := by
      refine ⟨⟨?_, ?_, ?_, ?_, ?_, ?_, ?_⟩, ?_⟩
      · rw [st_el (by decide), st_el (by decide)]; exact m1
      · rw [st_el (by decide), st_el (by decide)]; exact m2
      · rw [st_at, ezn]
      · rw [st_el (by decide), st_el (by decide)]; exact m4
      · rw [st_el (by decide), st_el (by decide)]; exact m5
      · rw [st_el (by decide), st_el (by decide)]; exact m6
      · rw [st_el (by decide), st_el (by decide)]; exact m7
      · rw [st_row (by decide), st_row (by decide), st_row (by decide), st_row (by decide), st_row (by decide), st_row (by decide), st_row (by decide), st_row (by decide), st_row (by decide), st_row (by decide)]; exact hm1
    refine ⟨d, rg, z.toNat, cel, kn, mk, mB, cov, t, sy, md, ⟨I1, ⟨I2, I3, I4, I5, by omega, by omega⟩, I8⟩, ⟨⟨?_, ?_, ?_, ?_, ?_, ?_, ?_, ?_, ?_, ?_⟩, ?_, ?_, hcL⟩, r0, hG.thr.thr⟩
    · rw [e1, st_el (by decide)]; exact a0
    · rw [e1, st_el (by decide)]; exact a1
    · rw [e1, st_el (by decide)]; exact a2
    · rw [e1, st_el (by decide)]; exact a3
    · rw [e1, st_el (by decide)]; exact a4
    · rw [e1, st_el (by decide)]; exact a5
    · rw [e1, st_at, ezn]
    · rw [e1, st_el (by decide)]; exact a7
    · rw [e1, st_el (by decide)]; exact a8
    · rw [e1, st_el (by decide)]; exact a9
    · rw [e1, st_row (by decide)]; exact hc1
    · rw [e1, st_row (by decide)]; exact hc2
  unfold wp_X4_bound
  refine w_lt (b := 1) hz (by unfold Sm; omega) (fun q3 => by omega) (fun _ => w_le (b := 6) hz (by unfold Sm; omega) (fun _ => ?_) (fun q3 => by omega))
  unfold wp_X4_bound_17
  intro u e
  refine bt (by rw [e, st_at]; decide) (fun u2 e2 => ?_)
  subst e2 e
  exact ⟨by rw [st_el (by decide), st_at], hN _ _ _ _ hR2⟩
theorem case_unmask {L : Nat} {xs : Nat → Int32} {w h n : Nat} {NX : NT} {x4 : Int32} {ua : U2} {uL : U3} {uo : Nat → Int64} {um : U2} (hR : RR w h n ua uL um) (hN : ∀ ua' uL' uo' um', RR w h n ua' uL' um' → NX ua' uL' uo' um') : wp_case_unmask L xs n NX x4 ua uL uo um := by
  obtain ⟨d, rg, bd, cel, kn, mk, mB, cov, t, sy, md, hI, hC, hM, hG⟩ := hR
  unfold wp_case_unmask wp_X3_unmask wp_X4_unmask
  intro ua1 e1 u e u2 e2
  subst e
  apply hN
  obtain ⟨hc0, hc1, hc2, hcL⟩ := hC
  obtain ⟨a0, a1, a2, a3, a4, a5, a6, a7, a8, a9⟩ := hc0
  obtain ⟨hm0, hm1⟩ := hM
  obtain ⟨m1, m2, m3, m4, m5, m6, m7⟩ := hm0
  have r0 : RMs u2 w h d rg bd false mB cov t sy md := by
    rw [e2]
    refine ⟨⟨?_, ?_, ?_, ?_, ?_, ?_, ?_⟩, ?_⟩
    · rw [st_el (by decide), st_el (by decide)]; exact m1
    · rw [st_el (by decide), st_el (by decide)]; exact m2
    · rw [st_el (by decide), st_el (by decide)]; exact m3
    · rw [st_el (by decide), st_el (by decide)]; exact m4
    · rw [st_el (by decide), st_el (by decide)]; exact m5
    · rw [st_at]; exact ⟨fun _ => rfl, fun _ => rfl⟩
    · rw [st_el (by decide), st_el (by decide)]; exact m7
    · rw [st_row (by decide), st_row (by decide), st_row (by decide), st_row (by decide), st_row (by decide), st_row (by decide), st_row (by decide), st_row (by decide), st_row (by decide), st_row (by decide)]; exact hm1
  refine ⟨d, rg, bd, cel, kn, false, mB, cov, t, sy, md, hI, ⟨⟨?_, ?_, ?_, ?_, ?_, ?_, ?_, ?_, ?_, ?_⟩, ?_, ?_, hcL⟩, r0, by rw [e2]; exact hG.thr.thr⟩
  · rw [e1, st_el (by decide)]; exact a0
  · rw [e1, st_el (by decide)]; exact a1
  · rw [e1, st_el (by decide)]; exact a2
  · rw [e1, st_at]; exact ⟨fun _ => rfl, fun _ => rfl⟩
  · rw [e1, st_el (by decide)]; exact a4
  · rw [e1, st_el (by decide)]; exact a5
  · rw [e1, st_el (by decide)]; exact a6
  · rw [e1, st_el (by decide)]; exact a7
  · rw [e1, st_el (by decide)]; exact a8
  · rw [e1, st_el (by decide)]; exact a9
  · rw [e1, st_row (by decide)]; exact hc1
  · rw [e1, st_row (by decide)]; exact hc2
theorem case_colour {L : Nat} {xs : Nat → Int32} {w h n : Nat} {NX : NT} {x4 : Int32} {ua : U2} {uL : U3} {uo : Nat → Int64} {um : U2} (hR : RR w h n ua uL um) (i1 : vp_in (x4 + 1) L) (i2 : vp_in (x4 + 2) L) (hN : ∀ ua' uL' uo' um', RR w h n ua' uL' um' → NX ua' uL' uo' um') : wp_case_colour L xs n NX x4 ua uL uo um := by
  obtain ⟨d, rg, bd, cel, kn, mk, mB, cov, t, sy, md, hI, hC, hM, hG⟩ := hR
  have hRt : ∀ v, RR w h n ua uL (st um 0 0 v) := fun v => ⟨d, rg, bd, cel, kn, mk, mB, cov, t, sy, md, hI, hC, hM.thr, hG.thr⟩
  unfold wp_case_colour wp_L_colour wp_X3_colour
  refine ⟨i1, i2, ?_⟩
  obtain ⟨z, hz, ez⟩ := ex_iI (xs (x4 + 1).toNatClampNeg)
  obtain ⟨v, hv, ev⟩ := ex_iI (xs (x4 + 2).toNatClampNeg)
  rw [ez, ev]
  have bad : ∀ (s : Int32) (P : U2 → Prop), ¬ s = 0 → P (st um 0 0 s) → wp_X4_colour_24 P um (iI z) (iI v) s := by
    intro s P hs hP
    unfold wp_X4_colour_24
    intro u e
    subst e
    exact nf (by rw [st_at]; exact hs) hP
  refine q_needByte hv (fun hb => q_needBand hz (fun hd ua1 e1 => ?_) (fun hd => ?_)) (fun hb => ?_)
  · unfold wp_X4_colour
    refine q_isByte hv (fun _ => nf (by decide) (q_isBand hz (fun _ => nf (by decide) ?_) (fun q => absurd hd q))) (fun q => absurd hb q)
    obtain ⟨k, hk, ek⟩ := hd.n
    rw [ek] at e1 ⊢
    unfold wp_X4_colour_24
    intro u e
    refine nt (by rw [e, st_at]) ⟨i3i hk, fun u4 e4 => ?_⟩
    rw [i3c hk] at e4
    subst e4 e
    refine ⟨by rw [st_row (by decide), st_at], hN _ _ _ _ ?_⟩
    obtain ⟨hc0, hc1, hc2, hcL⟩ := hC
    obtain ⟨a0, a1, a2, a3, a4, a5, a6, a7, a8, a9⟩ := hc0
    obtain ⟨hm0, hm1, hm8, hm9, hm10, hm11⟩ := hM
    obtain ⟨I1, I2, I3, I4, I5, I6⟩ := hI
    have hf' : B3 (fun j => if j = k then v else t j) := fun j hj => by
      show Bt (if j = k then v else t j)
      split
      · exact hb
      · exact I6 j hj
    refine ⟨d, rg, bd, cel, kn, mk, mB, cov, fun j => if j = k then v else t j, sy, md, ⟨I1, I2, I3, I4, I5, hf'⟩, ⟨⟨?_, ?_, ?_, ?_, ?_, ?_, ?_, ?_, ?_, ?_⟩, ?_, ?_, hcL⟩, ⟨?_, ?_, ?_, ?_, ?_, ?_⟩, hG.thr.row (by decide) (by decide) (by decide) (by decide) (by decide) (by decide)⟩
    · rw [e1, st_el (by decide)]; exact a0
    · rw [e1, st_el (by decide)]; exact a1
    · rw [e1, st_el (by decide)]; exact a2
    · rw [e1, st_el (by decide)]; exact a3
    · rw [e1, st_at, a4]; exact e_setband I6 hk hb
    · rw [e1, st_el (by decide)]; exact a5
    · rw [e1, st_el (by decide)]; exact a6
    · rw [e1, st_el (by decide)]; exact a7
    · rw [e1, st_el (by decide)]; exact a8
    · rw [e1, st_el (by decide)]; exact a9
    · rw [e1, st_row (by decide)]; exact hc1
    · rw [e1, st_row (by decide)]; exact hc2
    · rw [st_row (by decide)]; exact hm0.eq (fun j hj => st_el hj)
    · rw [st_row (by decide), st_row (by decide)]; exact hm1
    · rw [st_row (by decide), st_row (by decide)]; exact hm8
    · rw [st_row (by decide), st_row (by decide)]; exact hm9
    · intro j hj
      show _ = iI (if j = k then v else t j)
      by_cases q : j = k
      · rw [if_pos q, q, st_at]
      · rw [if_neg q, st_el q, st_row (by decide)]; exact hm10 j hj
    · rw [st_row (by decide), st_row (by decide)]; exact hm11
  · refine ⟨fun q => absurd q (by decide), fun _ => ⟨rfl, ?_⟩⟩
    unfold wp_X4_colour
    exact q_isByte hv (fun _ => nf (by decide) (q_isBand hz (fun q => absurd q hd) (fun _ => nt rfl (bad 2 _ (by decide) ⟨st_at, hN _ _ _ _ (hRt 2)⟩)))) (fun q => absurd hb q)
  · refine ⟨fun _ => ?_, fun q => absurd rfl q⟩
    unfold wp_X4_colour
    exact q_isByte hv (fun q => absurd q hb) (fun _ => nt rfl (bad 1 _ (by decide) ⟨st_at, hN _ _ _ _ (hRt 1)⟩))
