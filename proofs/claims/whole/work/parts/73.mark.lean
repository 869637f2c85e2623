/-! mark -/
def lvS (mk : Bool) (mB : Nat → Int) (p : Nat) (a : Int) : Int := if mk = true then mu a (mB p) else a
theorem lvS_b {mk : Bool} {mB : Nat → Int} {p : Nat} {a : Int} (hm : Bt (mB p)) (ha : Bt a) : Bt (lvS mk mB p a) ∧ lvS mk mB p a ≤ a := by
  unfold lvS
  split
  · exact ⟨mu_b ha hm, mu_le ha hm⟩
  · exact ⟨ha, Int.le_refl a⟩
def celq (w h g : Nat) (NEW : Nat → Cl) (cel : Nat → Nat → Cl) (q : Nat) : Nat → Nat → Cl := fun g' p => if g' = g ∧ Vp w h p ∧ p < q then NEW p else cel g' p
def upc (cel : Nat → Nat → Cl) (g p : Nat) (c : Cl) : Nat → Nat → Cl := fun g' p' => if g' = g ∧ p' = p then c else cel g' p'
theorem celq_0 {w h g : Nat} {NEW : Nat → Cl} {cel : Nat → Nat → Cl} : celq w h g NEW cel 0 = cel := by
  funext g' p
  unfold celq
  rw [if_neg (fun q => by omega)]
theorem celq_s {w h g : Nat} {NEW : Nat → Cl} {cel : Nat → Nat → Cl} {q : Nat} (hV : Vp w h q) : upc (celq w h g NEW cel q) g q (NEW q) = celq w h g NEW cel (q + 1) := by
  funext g' p
  unfold upc
  by_cases e : g' = g ∧ p = q
  · rw [if_pos e]
    unfold celq
    rw [e.1, e.2, if_pos ⟨rfl, hV, by omega⟩]
  · rw [if_neg e]
    unfold celq
    by_cases e2 : g' = g ∧ Vp w h p ∧ p < q
    · rw [if_pos e2, if_pos ⟨e2.1, e2.2.1, by omega⟩]
    · rw [if_neg e2, if_neg (fun e3 => by
        obtain ⟨x1, x2, x3⟩ := e3
        have : p = q ∨ p < q := by omega
        rcases this with r | r
        · exact e ⟨x1, r⟩
        · exact e2 ⟨x1, x2, r⟩)]
theorem celq_gap {w h g : Nat} {NEW : Nat → Cl} {cel : Nat → Nat → Cl} {a b : Nat} (hab : a ≤ b) (hV : ∀ p, a ≤ p → p < b → ¬ Vp w h p) : celq w h g NEW cel a = celq w h g NEW cel b := by
  funext g' p
  unfold celq
  by_cases e : g' = g ∧ Vp w h p ∧ p < a
  · rw [if_pos e, if_pos ⟨e.1, e.2.1, by omega⟩]
  · rw [if_neg e, if_neg (fun e3 => by
      obtain ⟨x1, x2, x3⟩ := e3
      by_cases r : p < a
      · exact e ⟨x1, x2, r⟩
      · exact hV p (by omega) x3 x2)]
theorem celq_row {w h g : Nat} {NEW : Nat → Cl} {cel : Nat → Nat → Cl} {y : Nat} (hw : w ≤ 12) : celq w h g NEW cel (12 * y + w) = celq w h g NEW cel (12 * (y + 1)) :=
  celq_gap (by omega) (fun p h1 h2 => by unfold Vp; omega)
theorem celq_ne {w h g g' : Nat} {NEW : Nat → Cl} {cel : Nat → Nat → Cl} {q p : Nat} (hne : g' ≠ g) : celq w h g NEW cel q g' p = cel g' p := by
  unfold celq
  rw [if_neg (fun e => hne e.1)]
theorem celq_ge {w h g : Nat} {NEW : Nat → Cl} {cel : Nat → Nat → Cl} {q p : Nat} (hp : q ≤ p) : celq w h g NEW cel q g p = cel g p := by
  unfold celq
  rw [if_neg (fun e => by omega)]
theorem celq_in {w h g : Nat} {NEW : Nat → Cl} {cel : Nat → Nat → Cl} {q p : Nat} (hV : Vp w h p) (hp : p < q) : celq w h g NEW cel q g p = NEW p := by
  unfold celq
  rw [if_pos ⟨rfl, hV, hp⟩]
theorem celq_b {w h g : Nat} {NEW : Nat → Cl} {cel : Nat → Nat → Cl} {q : Nat} (h1 : ∀ p, CB (NEW p)) (h2 : ∀ g p, CB (cel g p)) : ∀ g' p, CB (celq w h g NEW cel q g' p) := fun g' p => by
  unfold celq
  split
  · exact h1 p
  · exact h2 g' p
def cS (A : Nat → Int) (w h : Nat) : Nat → Nat
  | 0 => 0
  | p + 1 => cS A w h p + (if Vp w h p ∧ 0 < A p then 1 else 0)
theorem cS_gap {A : Nat → Int} {w h a : Nat} : ∀ b, a ≤ b → (∀ p, a ≤ p → p < b → ¬ Vp w h p) → cS A w h b = cS A w h a := by
  intro b
  induction b with
  | zero => intro hab _; have : a = 0 := by omega
            rw [this]
  | succ b ih =>
    intro hab hV
    by_cases e : a = b + 1
    · rw [e]
    · rw [cS, if_neg (fun q => hV b (by omega) (by omega) q.1), ih (by omega) (fun p h1 h2 => hV p h1 (by omega)), Nat.add_zero]
theorem cS_row {A : Nat → Int} {w h y : Nat} (hw : w ≤ 12) : cS A w h (12 * (y + 1)) = cS A w h (12 * y + w) := cS_gap _ (by omega) (fun p h1 h2 => by unfold Vp; omega)
theorem q_leftBy {n i : Nat} {ua : U2} {mk : Bool} {mB : Nat → Int} {p : Nat} {a : Int} {P : Int32 → Prop} (hi : i < n) (hn : n ≤ 144) (h3 : ua 0 3 = 0 ↔ mk = false) (h2 : ua 2 i = iI (mB p)) (hm : Bt (mB p)) (ha : Bt a) (h : P (iI (lvS mk mB p a))) : wp_X3_leftByMask n ua (nI i) (iI a) P := by
  unfold wp_X3_leftByMask
  unfold lvS at h
  refine ⟨fun q => ?_, fun q => ⟨vin hi (by omega), ?_⟩⟩
  · rw [h3.mp q, if_neg (by decide)] at h; exact h
  · rw [mk_t h3 q, if_pos rfl] at h
    rw [ncl (by omega), h2]
    exact q_X2_mul ha hm h
theorem q_leaves {um : U2} {mk : Bool} {mB : Nat → Int} {p : Nat} {a : Int} {P : Int32 → Prop} (hp : p < 144) (h3 : um 0 6 = 0 ↔ mk = false) (h2 : um 8 p = iI (mB p)) (hm : Bt (mB p)) (ha : Bt a) (h : P (iI (lvS mk mB p a))) : wp_X4_leaves um (iI a) (nI p) P := by
  unfold wp_X4_leaves
  unfold lvS at h
  refine ⟨fun q => ?_, fun q => ⟨vin hp (by omega), ?_⟩⟩
  · rw [h3.mp q, if_neg (by decide)] at h; exact h
  · rw [mk_t h3 q, if_pos rfl] at h
    rw [ncl (by omega), h2]
    exact q_X4_mul ha hm h
def nwC (kb : Bool) (m : Int) (F A : Nat → Int) (T : Nat → F3) (sy : Nat → Bool) (c : Nat → Cl) : Nat → Cl := fun p => putC kb m (F p) (A p) (T p) sy (c p)
theorem cc_mark {n w h k g : Nat} {ua ub : U2} {KX : U2 → U2 → Int32 → Prop} {cel : Nat → Nat → Cl} {kb : Bool} {mk : Bool} {mB cov : Nat → Int} {t : F3} {sy : Nat → Bool} {m sh op : Int} (I1 : 1 ≤ w) (I2 : w ≤ 12) (I4 : h ≤ 12) (I5 : w * h = n) (I6 : n ≤ 144) (e2 : ua 0 2 = nI n) (e3 : ua 0 3 = 0 ↔ mk = false) (e4 : ua 0 4 = iI (pkF t)) (e5 : SYZ (ua 0 5) sy) (c1 : ∀ i, i < n → ua 1 i = iI (cov (pt w i))) (c2 : ∀ i, i < n → ua 2 i = iI (mB (pt w i))) (hK1 : ∀ g p, CB (cel g p)) (hK2 : ∀ p, Bt (mB p)) (hK3 : ∀ p, Bt (cov p)) (hK4 : B3 t) (hm : Sm m) (hsh : Bt sh) (hop : Bt op) (hkb : ub 0 1 = 0 ↔ kb = false) (hcc : ∀ i, i < n → CC ub i (cel g (pt w i)))
    (hE : ∀ ub', (∀ i, i < n → CC ub' i (nwC kb m (fun p => mu (cov p) sh) (fun p => lvS mk mB p (mu (mu (cov p) sh) op)) (fun _ => t) sy (cel g) (pt w i))) → ub' 0 = ub 0 → KX ua ub' (nI (cS (fun p => lvS mk mB p (mu (mu (cov p) sh) op)) w h (12 * h)))) :
    ∃ N, wp_X3_mark_26 n k KX (iI m) (iI sh) (iI op) N ua ub 0 0 := by
  refine upN0 (σ := U2 × Int32) (fun N s i => wp_X3_mark_26 n k KX (iI m) (iI sh) (iI op) N ua s.1 s.2 i) (fun i s => (∀ j, j < n → CC s.1 j (if j < i then nwC kb m (fun p => mu (cov p) sh) (fun p => lvS mk mB p (mu (mu (cov p) sh) op)) (fun _ => t) sy (cel g) (pt w j) else cel g (pt w j))) ∧ s.1 0 = ub 0 ∧ s.2 = nI (cS (fun p => lvS mk mB p (mu (mu (cov p) sh) op)) w h (pt w i))) n (ub, 0) ⟨fun j hj => ?_, rfl, by rw [pt_0]; rfl⟩ (fun N i s hi hs hn => ?_) (fun N s hs => ?_)
  · show CC ub j _
    rw [if_neg (by omega)]; exact hcc j hj
  · obtain ⟨ub1, x5⟩ := s
    obtain ⟨s1, s2, s3⟩ := hs
    dsimp only at s1 s2 s3 hn ⊢
    rw [wp_X3_mark_26]
    have hp := pt_V I1 I2 I4 I5 hi
    have hcb := hK1 g (pt w i)
    have hf : Bt (mu (cov (pt w i)) sh) := mu_b (hK3 _) hsh
    have ha0 : Bt (mu (mu (cov (pt w i)) sh) op) := mu_b hf hop
    have ha0' := mu_le hf hop
    have ha := lvS_b (mk := mk) (p := pt w i) (hK2 (pt w i)) ha0
    refine bf (by rw [e2]; exact nI_ge hi (by omega)) ⟨vin hi (by omega), ?_⟩
    rw [ncl (by omega), c1 i hi, e4]
    refine q_X2_mul (hK3 _) hsh (q_X2_mul hf hop (q_leftBy hi I6 e3 (c2 i hi) (hK2 _) ha0 ?_))
    have hci := s1 i hi
    rw [if_neg (by omega)] at hci
    have hgap := pt_succ I1 I2 I5 hi
    have ecs : cS (fun p => lvS mk mB p (mu (mu (cov p) sh) op)) w h (pt w (i + 1)) = cS (fun p => lvS mk mB p (mu (mu (cov p) sh) op)) w h (pt w i) + (if 0 < lvS mk mB (pt w i) (mu (mu (cov (pt w i)) sh) op) then 1 else 0) := by
      rw [cS_gap (a := pt w i + 1) _ hgap.1 hgap.2, cS]
      by_cases q : 0 < lvS mk mB (pt w i) (mu (mu (cov (pt w i)) sh) op)
      · rw [if_pos ⟨hp.2, q⟩, if_pos q]
      · rw [if_neg (fun z => q z.2), if_neg q]
    refine q_X0_put (kn := kb) hi I6 hm hci hcb (by rw [s2]; exact hkb) e5.sy hf ha.1.1 (by omega) hK4 (fun ub6 g6 gf => ?_)
    have fin : ∀ v : Int32, v = nI (cS (fun p => lvS mk mB p (mu (mu (cov p) sh) op)) w h (pt w (i + 1))) → wp_X3_mark_90 n k (wp_X3_mark_26 n k KX (iI m) (iI sh) (iI op) N) ua ub6 (iI m) (iI sh) (iI op) v (nI i) := by
      intro v ev
      unfold wp_X3_mark_90
      intro v7 e7
      subst e7
      rw [nI_1 i]
      refine hn (ub6, v) ⟨fun j hj => ?_, ?_, ev⟩
      · show CC ub6 j _
        by_cases q : j = i
        · rw [q, if_pos (by omega)]; exact g6
        · have hcj := s1 j hj
          have : ∀ r, ub6 r j = ub1 r j := fun r => gf r j (Or.inr q)
          unfold CC at hcj ⊢
          rw [this, this, this, this, this]
          by_cases q2 : j < i
          · rw [if_pos (by omega)]; rw [if_pos q2] at hcj; exact hcj
          · rw [if_neg (by omega)]; rw [if_neg q2] at hcj; exact hcj
      · show ub6 0 = ub 0
        rw [← s2]
        funext j
        exact gf 0 j (Or.inl rfl)
    refine w_le (b := 0) ha.1.sm (by unfold Sm; omega) (fun q => fin x5 ?_) (fun q v8 e8 => fin v8 ?_)
    · rw [ecs, if_neg (by omega), s3]; rfl
    · rw [ecs, if_pos q, e8, s3, nI_1]
  · obtain ⟨ub1, x5⟩ := s
    obtain ⟨s1, s2, s3⟩ := hs
    dsimp only at s1 s2 s3 ⊢
    rw [wp_X3_mark_26]
    refine bt (by rw [e2]; exact nI_le (by omega) (by omega)) ?_
    rw [s3, pt_n I1 I5]
    refine hE ub1 (fun i hi => ?_) s2
    have := s1 i hi
    rw [if_pos hi] at this
    exact this
theorem RG.put {um um' : U2} {rg g p : Nat} {cel : Nat → Nat → Cl} {kn : Nat → Bool} {c : Cl} (h : RG um rg cel kn) (hf : MFr um um' (144 * g + p)) (hp : p < 144) (hc : CM um' (144 * g + p) c) : RG um' rg (upc cel g p c) kn := fun g' hg' => by
  refine ⟨?_, fun p' hp' => ?_⟩
  · rw [hf.1 2 (by decide) (by decide) (by decide) (by decide) (by decide) (by decide) (by decide)]; exact (h g' hg').1
  · unfold upc
    by_cases e : g' = g ∧ p' = p
    · rw [if_pos e, e.1, e.2]; exact hc
    · rw [if_neg e]
      exact hf.cm ((h g' hg').2 p' hp') (fun q => e (by omega))
theorem m_put {um : U2} {P : U2 → Prop} {w h d rg bd g p : Nat} {cel : Nat → Nat → Cl} {kn : Nat → Bool} {mk : Bool} {mB cov : Nat → Int} {t T : F3} {sy : Nat → Bool} {md : Int32} {rgs : Nat} {m f a : Int} (hM : RMs um w h d rgs bd mk mB cov t sy md) (hG : RG um rg cel kn) (hK1 : ∀ g p, CB (cel g p)) (hg : g < rg) (hrg : rg ≤ 6) (hp : p < 144) (hm : 0 ≤ m) (hm2 : m ≤ 15) (hf : Bt f) (ha : 0 ≤ a) (ha2 : a ≤ f) (rT : RF (um 12) T) (hT : B3 T) (hP : ∀ um', RMs um' w h d rgs bd mk mB cov t sy md → RG um' rg (upc cel g p (putC (kn g) m f a T sy (cel g p))) kn → um' 0 = um 0 → P um') : wp_X4_put um (nI g) (nI p) (iI m) (iI f) (iI a) P := by
  refine q_X4_put (kn := kn g) (by omega) hp rfl hm hm2 ((hG g hg).2 p hp) (hK1 g p) (hG g hg).1 hM.2.2.2.2.2 hf ha ha2 rT hT (fun um' hc hfr _ => ?_)
  have r := hfr.1
  refine hP um' (hM.keep (fun j _ => ?_) ?_ ?_ ?_ ?_ ?_) (hG.put hfr hp hc) ?_
  · rw [r 0 (by decide) (by decide) (by decide) (by decide) (by decide) (by decide) (by decide)]
  all_goals exact r _ (by decide) (by decide) (by decide) (by decide) (by decide) (by decide) (by decide)
theorem mm_mark {um : U2} {KX : U2 → Int32 → Prop} {w h d rg bd : Nat} {cel : Nat → Nat → Cl} {kn : Nat → Bool} {mk : Bool} {mB cov : Nat → Int} {t : F3} {sy : Nat → Bool} {md : Int32} {m sh op : Int} (I2 : w ≤ 12) (I4 : h ≤ 12) (J1 : 1 ≤ rg) (J4 : rg ≤ 6) (hM : RMs um w h d rg bd mk mB cov t sy md) (hG : RG um rg cel kn) (h00 : um 0 0 = 0) (hK1 : ∀ g p, CB (cel g p)) (hK2 : ∀ p, Bt (mB p)) (hK3 : ∀ p, Bt (cov p)) (hK4 : B3 t) (hm : 0 ≤ m) (hm2 : m ≤ 15) (hsh : Bt sh) (hop : Bt op)
    (hE : ∀ um', RMs um' w h d rg bd mk mB cov t sy md → RG um' rg (celq w h (rg - 1) (nwC (kn (rg - 1)) m (fun p => mu (cov p) sh) (fun p => lvS mk mB p (mu (mu (cov p) sh) op)) (fun _ => t) sy (cel (rg - 1))) cel (12 * h)) kn → um' 0 0 = 0 → KX um' (nI (cS (fun p => lvS mk mB p (mu (mu (cov p) sh) op)) w h (12 * h)))) :
    ∃ N, wp_X4_mark_60 KX (iI m) (iI sh) (iI op) N um 0 0 := by
  generalize eA : (fun p => lvS mk mB p (mu (mu (cov p) sh) op)) = A at hE ⊢
  generalize eW : nwC (kn (rg - 1)) m (fun p => mu (cov p) sh) A (fun _ => t) sy (cel (rg - 1)) = NW at hE ⊢
  have hNB : ∀ p, CB (NW p) := fun p => by
    rw [← eW, ← eA]
    have hf : Bt (mu (cov p) sh) := mu_b (hK3 _) hsh
    have ha0 := mu_b hf hop
    have ha := lvS_b (mk := mk) (p := p) (hK2 p) ha0
    have := mu_le hf hop
    exact putC_b (hK1 _ p) hf ha.1.1 (Int.le_trans ha.2 this) hK4
  refine upN0 (σ := U2 × Int32) (fun N s i => wp_X4_mark_60 KX (iI m) (iI sh) (iI op) N s.1 s.2 i) (fun y s => RMs s.1 w h d rg bd mk mB cov t sy md ∧ RG s.1 rg (celq w h (rg - 1) NW cel (12 * y)) kn ∧ s.1 0 0 = 0 ∧ s.2 = nI (cS A w h (12 * y))) h (um, 0) ⟨hM, by rw [Nat.mul_zero, celq_0]; exact hG, h00, rfl⟩ (fun N y s hy hs hn => ?_) (fun N s hs => ?_)
  · obtain ⟨u, x4⟩ := s
    obtain ⟨s1, s2, z3, s4⟩ := hs
    dsimp only at s1 s2 z3 s4 hn ⊢
    rw [wp_X4_mark_60]
    refine bf (by rw [s1.1.2.1]; exact nI_ge hy (by omega)) (nt z3 ?_)
    refine upN0 (σ := U2 × Int32) (fun N' s i => wp_X4_mark_79 (fun um18 y19 => ∀ v20, v20 = nI y + 1 → wp_X4_mark_60 KX (iI m) (iI sh) (iI op) N um18 y19 v20) (iI m) (iI sh) (iI op) (nI y) N' s.1 s.2 i) (fun x s => RMs s.1 w h d rg bd mk mB cov t sy md ∧ RG s.1 rg (celq w h (rg - 1) NW cel (12 * y + x)) kn ∧ s.1 0 0 = 0 ∧ s.2 = nI (cS A w h (12 * y + x))) w (u, x4) ⟨s1, s2, z3, s4⟩ (fun N2 x s hx hs hn2 => ?_) (fun N2 s hs => ?_)
    · obtain ⟨u1, z4⟩ := s
      obtain ⟨t1, t2, t3, t4⟩ := hs
      dsimp only at t1 t2 t3 t4 hn2 ⊢
      have hV : Vp w h (12 * y + x) := by unfold Vp; omega
      rw [wp_X4_mark_79]
      refine bf (by rw [t1.1.1]; exact nI_ge hx (by omega)) ?_
      unfold wp_X4_pointAt
      rw [e_pm]
      have hpi := vin (k := 12 * y + x) (N := 144) (by omega) (by omega)
      refine ⟨hpi, ?_⟩
      rw [ncl (by omega), t1.2.2.2.1 (12 * y + x) (by omega)]
      have hf : Bt (mu (cov (12 * y + x)) sh) := mu_b (hK3 _) hsh
      have ha0 : Bt (mu (mu (cov (12 * y + x)) sh) op) := mu_b hf hop
      have ha0' := mu_le hf hop
      have ha := lvS_b (mk := mk) (p := 12 * y + x) (hK2 (12 * y + x)) ha0
      refine q_X4_mul (hK3 _) hsh (q_X4_mul hf hop (q_leaves (by omega) t1.1.2.2.2.2.2.1 (t1.2.2.1 _ (by omega)) (hK2 _) ha0 ?_))
      have eAp : A (12 * y + x) = lvS mk mB (12 * y + x) (mu (mu (cov (12 * y + x)) sh) op) := by rw [← eA]
      have ecs : cS A w h (12 * y + (x + 1)) = cS A w h (12 * y + x) + (if 0 < lvS mk mB (12 * y + x) (mu (mu (cov (12 * y + x)) sh) op) then 1 else 0) := by
        show cS A w h (12 * y + x + 1) = _
        rw [cS, eAp]
        by_cases q : 0 < lvS mk mB (12 * y + x) (mu (mu (cov (12 * y + x)) sh) op)
        · rw [if_pos ⟨hV, q⟩, if_pos q]
        · rw [if_neg (fun z => q z.2), if_neg q]
      have fin : ∀ s0 : Int32, z4 + s0 = nI (cS A w h (12 * y + (x + 1))) → wp_X4_mark_137 (wp_X4_mark_79 (fun um18 y19 => ∀ v20, v20 = nI y + 1 → wp_X4_mark_60 KX (iI m) (iI sh) (iI op) N um18 y19 v20) (iI m) (iI sh) (iI op) (nI y) N2) u1 (iI m) (iI sh) (iI op) (nI y) (nI x) (nI (12 * y + x)) (iI (mu (cov (12 * y + x)) sh)) (iI (lvS mk mB (12 * y + x) (mu (mu (cov (12 * y + x)) sh) op))) s0 z4 := by
        intro s0 es
        unfold wp_X4_mark_137
        intro v7 e7
        rw [es] at e7
        subst e7
        refine ⟨4, three 12 0 (u1 10) (fun N3 k um' hk hR hel hn3 => ?_) ?_⟩
        · rw [wp_X4_mark_143]
          rw [Nat.zero_add] at hn3
          refine bf (i3n hk) ⟨i3i hk, i3i hk, fun u eu v4 e4 => ?_⟩
          subst eu e4
          rw [i3c hk, nI_1 k, hR 10 (by decide)]
          exact hn3
        · rw [wp_X4_mark_143]
          refine bt (by decide) ?_
          unfold wp_X4_here
          rw [s3_row (r := 0) (by decide), t1.1.2.2.2.2.1, nI_m1 J1]
          have k1 : RMs (s3 u1 12 0 (u1 10)) w h d rg bd mk mB cov t sy md := t1.keep (fun j _ => by rw [s3_row (by decide)]) (s3_row (by decide)) (s3_row (by decide)) (s3_row (by decide)) (s3_row (by decide)) (s3_row (by decide))
          have k2 : RG (s3 u1 12 0 (u1 10)) rg (celq w h (rg - 1) NW cel (12 * y + x)) kn := t2.keep (s3_row (by decide)) (s3_row (by decide)) (s3_row (by decide)) (s3_row (by decide)) (s3_row (by decide)) (s3_row (by decide))
          refine m_put k1 k2 (celq_b hNB hK1) (by omega) J4 (by omega) hm hm2 hf ha.1.1 (by omega) (RF_s3 t1.2.2.2.2.1) hK4 (fun u6 r1 r2 r3 v15 e15 => ?_)
          subst e15
          rw [nI_1 x]
          refine hn2 (u6, _) ⟨r1, ?_, ?_, rfl⟩
          · show RG u6 rg (celq w h (rg - 1) NW cel (12 * y + x + 1)) kn
            rw [← celq_s hV]
            have en : NW (12 * y + x) = putC (kn (rg - 1)) m (mu (cov (12 * y + x)) sh) (lvS mk mB (12 * y + x) (mu (mu (cov (12 * y + x)) sh) op)) t sy (celq w h (rg - 1) NW cel (12 * y + x) (rg - 1) (12 * y + x)) := by
              rw [celq_ge (by omega), ← eW, ← eA]
              rfl
            rw [en]
            exact r2
          · show u6 0 0 = 0
            rw [r3, s3_row (by decide)]; exact t3
      refine w_le (b := 0) ha.1.sm (by unfold Sm; omega) (fun q => fin 0 ?_) (fun q => fin 1 ?_)
      · rw [ecs, if_neg (by omega), t4, show (0 : Int32) = nI 0 from rfl, nI_add]
      · rw [ecs, if_pos q, t4, nI_1]
    · obtain ⟨u1, z4⟩ := s
      obtain ⟨t1, t2, t3, t4⟩ := hs
      dsimp only at t1 t2 t3 t4 ⊢
      rw [wp_X4_mark_79]
      refine bt (by rw [t1.1.1]; exact nI_le (by omega) (by omega)) (fun v20 e20 => ?_)
      subst e20
      rw [nI_1 y]
      exact hn (u1, z4) ⟨t1, by rw [← celq_row I2]; exact t2, t3, by rw [cS_row I2]; exact t4⟩
  · obtain ⟨u, x4⟩ := s
    obtain ⟨s1, s2, z3, s4⟩ := hs
    dsimp only at s1 s2 z3 s4 ⊢
    rw [wp_X4_mark_60]
    refine bt (by rw [s1.1.2.1]; exact nI_le (by omega) (by omega)) ?_
    rw [s4]
    exact hE u s1 s2 z3
