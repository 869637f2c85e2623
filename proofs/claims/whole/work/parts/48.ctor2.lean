theorem m40 : Cond.methodLink RX3 1 objectInit ∈ gG := gG_mk (i := 40) (by decide +kernel) (by decide +kernel)
theorem m49 : Cond.classLink RX3 35 "BlendRows$Layer" ∈ gG := gG_mk (i := 49) (by decide +kernel) (by decide +kernel)
theorem m51 : Cond.instantiable "BlendRows$Layer" 7 ∈ gG := gG_mk (i := 51) (by decide +kernel) (by decide +kernel)
theorem m52 : Cond.methodLink RX3 41 yX0_init ∈ gG := gG_mk (i := 52) (by decide +kernel) (by decide +kernel)
theorem m53 : Cond.instanceMethod yX0_init ∈ gG := gG_mk (i := 53) (by decide +kernel) (by decide +kernel)
theorem m54 : Cond.code yX0_init cX0_init 2 none ∈ gG := gG_mk (i := 54) (by decide +kernel) (by decide +kernel)
def wp_X3_init_107 (n : Nat) (KX : (Nat → Nat → Int32) → (Nat → Nat → Nat → Int32) → Prop) : Nat → (Nat → Nat → Int32) → (Nat → Nat → Nat → Int32) → Int32 → Prop
  | 0, _, _, _ => False
  | N107 + 1, ua, uL, x3 =>
    (((ua 0 2) ≤ x3 → KX ua uL) ∧
  (¬ (ua 0 2) ≤ x3 → (vp_in x3 n ∧ ∀ ua3 : Nat → Nat → Int32, ua3 = st ua 1 x3.toNatClampNeg 255 → ∀ v4 : Int32, v4 = x3 + 1 → wp_X3_init_107 n KX N107 ua3 uL v4)))
def wp_X3_init (n : Nat) (ua : Nat → Nat → Int32) (uL : Nat → Nat → Nat → Int32) (P : (Nat → Nat → Int32) → (Nat → Nat → Nat → Int32) → Prop) : Prop :=
  (∃ N107, wp_X3_init_107 n (fun (ua6 : Nat → Nat → Int32) (uL7 : Nat → Nat → Nat → Int32) => ∀ ua8 : Nat → Nat → Int32, ua8 = st ua6 0 6 6 → ∀ ua9 : Nat → Nat → Int32, ua9 = st ua8 0 7 1 → ∀ ua10 : Nat → Nat → Int32, ua10 = st ua9 0 8 1 → P ua10 uL7) N107 ua uL 0)
abbrev wX3_init : List Cond := Cond.code yX3_init cX3_init 4 none :: gG
abbrev rm_X3_init : Room := { frames := 2, cells := 39, slots := 4700, locals := 42 }
set_option maxHeartbeats 4000000 in
set_option maxRecDepth 100000 in
theorem c_X3_init (l : Launch) (dC : Nat → ClassId) (dI : Nat → Nat → Nat) (cA : Nat → ClassId) (h0 : Nat) (p0 p1 : Int32) (w1 h1 n : Nat) (ew : (if 1 < (if p0 < 12 then p0 else 12) then (if p0 < 12 then p0 else 12) else 1) = nI w1) (eh : (if 1 < (if p1 < 12 then p1 else 12) then (if p1 < 12 then p1 else 12) else 1) = nI h1) (en : w1 * h1 = n) (hn9 : n ≤ 144) (sz : Nat) (P : (Nat → Nat → Int32) → (Nat → Nat → Nat → Int32) → Prop) (hw : wp_X3_init n (br0 (nI w1) (nI h1) (nI n)) (fun _ => ly0 (nI n)) P) : Met l yX3_init wX3_init rm_X3_init (xP2o dC dI cA ([(h0, .inr (2, [.int 0, .int 0, .int 0, .null, .null, .null, .int 0, .int 0, .int 0, .int 0, .int 0, .int 0, .int 0]))]) sz [.ref h0, .int p0, .int p1]) (va_Qv (fun (u : (Nat → Nat) × (Nat → Nat → Nat) × (Nat → Nat → Int32) × (Nat → Nat → Nat → Int32)) => u.1 0 = h0 ∧ P u.2.2.1 u.2.2.2) (fun u t => va_P (dC, dI) vwCl (w_br u.1 u.2.1 cA n u.2.2.1 ++ wL u.2.1 cA n u.2.2.2) t.heap ∧ va_K (dC, dI) vwCl (tyA cA) t ∧ va_D (va_A ([(h0, .inr (2, [.int 0, .int 0, .int 0, .null, .null, .null, .int 0, .int 0, .int 0, .int 0, .int 0, .int 0, .int 0]))]) sz) (w_br u.1 u.2.1 cA n u.2.2.1 ++ wL u.2.1 cA n u.2.2.2)) (va_A ([(h0, .inr (2, [.int 0, .int 0, .int 0, .null, .null, .null, .int 0, .int 0, .int 0, .int 0, .int 0, .int 0, .int 0]))]) sz)) 39 4700 (va_A ([(h0, .inr (2, [.int 0, .int 0, .int 0, .null, .null, .null, .int 0, .int 0, .int 0, .int 0, .int 0, .int 0, .int 0]))]) sz) := by
  refine Met.ofW (cc := cX3_init) (maxL := 4) (ret := none) (by decide) rfl ?_
  intro p e s m args below meth c s₁ B hml hv
  obtain ⟨hargs, hsz, hP, hK, hD0, hAO⟩ := hv
  have hx := B.exec
  have hb := B.bytes
  have hr := B.returns
  have hts := atoms_spec (ws := wX3_init) B.pre
  have hown : s.vm.findClass RX3 = some m.cls := findClass_of_methodNamed B.named
  have hlocks := B.notSynchronized
  have hin : meth.name = "<init>" := (name_of_methodNamed B.named B.method).1
  subst hsz
  have hD := hD0.self (sz := s.heap.size)
  generalize hAe : va_A ([(h0, .inr (2, [.int 0, .int 0, .int 0, .null, .null, .null, .int 0, .int 0, .int 0, .int 0, .int 0, .int 0, .int 0]))]) s.heap.size = A at hD ⊢
  have hA : ∀ q : Nat, s.heap.size ≤ q → A q := fun q h => by rw [← hAe]; exact Or.inr h
  have hS : va_S A s.heap s.heap [] := va_S.rf
  clear hAe hD0
  have hl := lv_entry ([.ref h0, .int p0, .int p1]) (n := 4) (Nat.le_of_ble_eq_true rfl)
  rw [show entryFrame m args 4 = entryFrame m (([.ref h0, .int p0, .int p1] : List Value).toArray) 4 from by rw [hargs], lg_entry_eq]
  generalize (lg_sl ([.ref h0, .int p0, .int p1]) ++ List.replicate (4 - (lg_sl ([.ref h0, .int p0, .int p1])).length) Slot.unset).toArray = ls at hl ⊢
  have hl : lv_has ls 4 [(0, .ref h0), (1, .int p0), (2, .int p1)] := hl
  refine lv_aload_n hx hb dX3_init_0 rfl (lv_at hl 0 rfl) ?_
  refine W.objInit hx hb hown (hts _ (xm m40)) (hts _ (xm m41)) (hts _ (xm m42)) rfl (by rw [hml]; exact hl.1) rfl dX3_init_1 (Nat.le_of_ble_eq_true rfl) (Nat.le_of_ble_eq_true rfl) ?_
  refine W.eq (g2 := F0 m 4 ls []) rfl ?_
  refine lv_aload_n hx hb dX3_init_4 rfl (lv_at hl 0 rfl) ?_
  refine lv_iconst (v := 1) hx hb dX3_init_5 (by decide) ?_
  refine lv_bipush (v := 12) hx hb dX3_init_6 (by decide) ?_
  refine lv_iload_n hx hb dX3_init_8 rfl (lv_at hl 1 rfl) ?_
  refine va_mmin hx hb (hml.trans hl.1.symm) hown (hts _ (xm m43)) (hts _ (xm m44)) (hts _ (xm m22)) (hts _ (xm m45)) (Nat.le_of_ble_eq_true rfl) (Nat.le_of_ble_eq_true rfl) (Nat.le_of_ble_eq_true rfl) (Nat.le_of_ble_eq_true rfl) dX3_init_9 ?_
  refine va_mmax hx hb (hml.trans hl.1.symm) hown (hts _ (xm m46)) (hts _ (xm m47)) (hts _ (xm m22)) (hts _ (xm m48)) (Nat.le_of_ble_eq_true rfl) (Nat.le_of_ble_eq_true rfl) (Nat.le_of_ble_eq_true rfl) (Nat.le_of_ble_eq_true rfl) dX3_init_12 ?_
  refine xtop (y := nI w1) ew ?_
  refine va_putF (D := (dC, dI)) (ci := 2) (v := .int (nI w1)) (ty := .int) (C := RX3) (T := TX3) (N := 13) hx hb hts iX3 tyX3 tyX3_ok nmX3 hown hK hP hD hS 0 rfl rfl 0 (by decide) (hts _ (xm m79)) (fun _ h9 => h9) rfl hin rfl (by decide +kernel) rfl rfl (Nat.le_of_ble_eq_true rfl) dX3_init_15 (fun H locs hP hD hS => ?_)
  have hP : va_P (dC, dI) vwCl ([(h0, .inr (2, [.int (nI w1), .int 0, .int 0, .null, .null, .null, .int 0, .int 0, .int 0, .int 0, .int 0, .int 0, .int 0]))]) H := hP
  have hD : va_D A ([(h0, .inr (2, [.int (nI w1), .int 0, .int 0, .null, .null, .null, .int 0, .int 0, .int 0, .int 0, .int 0, .int 0, .int 0]))]) := hD
  refine lv_aload_n hx hb dX3_init_18 rfl (lv_at hl 0 rfl) ?_
  refine lv_iconst (v := 1) hx hb dX3_init_19 (by decide) ?_
  refine lv_bipush (v := 12) hx hb dX3_init_20 (by decide) ?_
  refine lv_iload_n hx hb dX3_init_22 rfl (lv_at hl 2 rfl) ?_
  refine va_mmin hx hb (hml.trans hl.1.symm) hown (hts _ (xm m43)) (hts _ (xm m44)) (hts _ (xm m22)) (hts _ (xm m45)) (Nat.le_of_ble_eq_true rfl) (Nat.le_of_ble_eq_true rfl) (Nat.le_of_ble_eq_true rfl) (Nat.le_of_ble_eq_true rfl) dX3_init_23 ?_
  refine va_mmax hx hb (hml.trans hl.1.symm) hown (hts _ (xm m46)) (hts _ (xm m47)) (hts _ (xm m22)) (hts _ (xm m48)) (Nat.le_of_ble_eq_true rfl) (Nat.le_of_ble_eq_true rfl) (Nat.le_of_ble_eq_true rfl) (Nat.le_of_ble_eq_true rfl) dX3_init_26 ?_
  refine xtop (y := nI h1) eh ?_
  refine va_putF (D := (dC, dI)) (ci := 2) (v := .int (nI h1)) (ty := .int) (C := RX3) (T := TX3) (N := 13) hx hb hts iX3 tyX3 tyX3_ok nmX3 hown hK hP hD hS 0 rfl rfl 1 (by decide) (hts _ (xm m80)) (fun _ h9 => h9) rfl hin rfl (by decide +kernel) rfl rfl (Nat.le_of_ble_eq_true rfl) dX3_init_29 (fun H locs hP hD hS => ?_)
  have hP : va_P (dC, dI) vwCl ([(h0, .inr (2, [.int (nI w1), .int (nI h1), .int 0, .null, .null, .null, .int 0, .int 0, .int 0, .int 0, .int 0, .int 0, .int 0]))]) H := hP
  have hD : va_D A ([(h0, .inr (2, [.int (nI w1), .int (nI h1), .int 0, .null, .null, .null, .int 0, .int 0, .int 0, .int 0, .int 0, .int 0, .int 0]))]) := hD
  refine lv_aload_n hx hb dX3_init_32 rfl (lv_at hl 0 rfl) ?_
  refine lv_aload_n hx hb dX3_init_33 rfl (lv_at hl 0 rfl) ?_
  refine va_get (D := (dC, dI)) (ci := 2) (v := .int (nI w1)) (C := RX3) (T := TX3) (N := 13) hx hb hts iX3 hown hK hP 0 rfl rfl 0 (by decide) (hts _ (xm m79)) (fun _ h9 => h9) rfl dX3_init_34 ?_
  refine lv_aload_n hx hb dX3_init_37 rfl (lv_at hl 0 rfl) ?_
  refine va_get (D := (dC, dI)) (ci := 2) (v := .int (nI h1)) (C := RX3) (T := TX3) (N := 13) hx hb hts iX3 hown hK hP 0 rfl rfl 1 (by decide) (hts _ (xm m80)) (fun _ h9 => h9) rfl dX3_init_38 ?_
  refine lv_imul hx hb dX3_init_41 ?_
  refine xtop (y := nI n) (by rw [pk_mul, en]) ?_
  refine va_putF (D := (dC, dI)) (ci := 2) (v := .int (nI n)) (ty := .int) (C := RX3) (T := TX3) (N := 13) hx hb hts iX3 tyX3 tyX3_ok nmX3 hown hK hP hD hS 0 rfl rfl 2 (by decide) (hts _ (xm m81)) (fun _ h9 => h9) rfl hin rfl (by decide +kernel) rfl rfl (Nat.le_of_ble_eq_true rfl) dX3_init_42 (fun H locs hP hD hS => ?_)
  have hP : va_P (dC, dI) vwCl ([(h0, .inr (2, [.int (nI w1), .int (nI h1), .int (nI n), .null, .null, .null, .int 0, .int 0, .int 0, .int 0, .int 0, .int 0, .int 0]))]) H := hP
  have hD : va_D A ([(h0, .inr (2, [.int (nI w1), .int (nI h1), .int (nI n), .null, .null, .null, .int 0, .int 0, .int 0, .int 0, .int 0, .int 0, .int 0]))]) := hD
  refine lv_aload_n hx hb dX3_init_45 rfl (lv_at hl 0 rfl) ?_
  refine lv_aload_n hx hb dX3_init_46 rfl (lv_at hl 0 rfl) ?_
  refine va_get (D := (dC, dI)) (ci := 2) (v := .int (nI n)) (C := RX3) (T := TX3) (N := 13) hx hb hts iX3 hown hK hP 0 rfl rfl 2 (by decide) (hts _ (xm m81)) (fun _ h9 => h9) rfl dX3_init_47 ?_
  refine xnewI hx hb (hts _ (xm m78)) hK hP hD hS hA (N' := n) (nI_pos (by omega)) (nI_clamp (by omega)) (by omega) (Nat.le_of_ble_eq_true rfl) (show (0) + n ≤ 4700 by omega) dX3_init_50 (fun q1 H hP hD hS => ?_)
  have hP : va_P (dC, dI) vwCl ([(h0, .inr (2, [.int (nI w1), .int (nI h1), .int (nI n), .null, .null, .null, .int 0, .int 0, .int 0, .int 0, .int 0, .int 0, .int 0])), (q1, .inl (cA 0, n, .inl (fun _ => 0)))]) H := hP
  have hD : va_D A ([(h0, .inr (2, [.int (nI w1), .int (nI h1), .int (nI n), .null, .null, .null, .int 0, .int 0, .int 0, .int 0, .int 0, .int 0, .int 0])), (q1, .inl (cA 0, n, .inl (fun _ => 0)))]) := hD
  refine va_putF (D := (dC, dI)) (ci := 2) (v := .ref q1) (ty := .array .int) (C := RX3) (T := TX3) (N := 13) hx hb hts iX3 tyX3 tyX3_ok nmX3 hown hK hP hD hS 0 rfl rfl 3 (by decide) (hts _ (xm m82)) (fun _ h9 => h9) rfl hin rfl (by decide +kernel) rfl rfl (Nat.le_of_ble_eq_true rfl) dX3_init_52 (fun H locs hP hD hS => ?_)
  have hP : va_P (dC, dI) vwCl ([(h0, .inr (2, [.int (nI w1), .int (nI h1), .int (nI n), .ref q1, .null, .null, .int 0, .int 0, .int 0, .int 0, .int 0, .int 0, .int 0])), (q1, .inl (cA 0, n, .inl (fun _ => 0)))]) H := hP
  have hD : va_D A ([(h0, .inr (2, [.int (nI w1), .int (nI h1), .int (nI n), .ref q1, .null, .null, .int 0, .int 0, .int 0, .int 0, .int 0, .int 0, .int 0])), (q1, .inl (cA 0, n, .inl (fun _ => 0)))]) := hD
  refine lv_aload_n hx hb dX3_init_55 rfl (lv_at hl 0 rfl) ?_
  refine lv_aload_n hx hb dX3_init_56 rfl (lv_at hl 0 rfl) ?_
  refine va_get (D := (dC, dI)) (ci := 2) (v := .int (nI n)) (C := RX3) (T := TX3) (N := 13) hx hb hts iX3 hown hK hP 0 rfl rfl 2 (by decide) (hts _ (xm m81)) (fun _ h9 => h9) rfl dX3_init_57 ?_
  refine xnewI hx hb (hts _ (xm m78)) hK hP hD hS hA (N' := n) (nI_pos (by omega)) (nI_clamp (by omega)) (by omega) (Nat.le_of_ble_eq_true rfl) (show (0 + n) + n ≤ 4700 by omega) dX3_init_60 (fun q2 H hP hD hS => ?_)
  have hP : va_P (dC, dI) vwCl ([(h0, .inr (2, [.int (nI w1), .int (nI h1), .int (nI n), .ref q1, .null, .null, .int 0, .int 0, .int 0, .int 0, .int 0, .int 0, .int 0])), (q1, .inl (cA 0, n, .inl (fun _ => 0))), (q2, .inl (cA 0, n, .inl (fun _ => 0)))]) H := hP
  have hD : va_D A ([(h0, .inr (2, [.int (nI w1), .int (nI h1), .int (nI n), .ref q1, .null, .null, .int 0, .int 0, .int 0, .int 0, .int 0, .int 0, .int 0])), (q1, .inl (cA 0, n, .inl (fun _ => 0))), (q2, .inl (cA 0, n, .inl (fun _ => 0)))]) := hD
  refine va_putF (D := (dC, dI)) (ci := 2) (v := .ref q2) (ty := .array .int) (C := RX3) (T := TX3) (N := 13) hx hb hts iX3 tyX3 tyX3_ok nmX3 hown hK hP hD hS 0 rfl rfl 4 (by decide) (hts _ (xm m83)) (fun _ h9 => h9) rfl hin rfl (by decide +kernel) rfl rfl (Nat.le_of_ble_eq_true rfl) dX3_init_62 (fun H locs hP hD hS => ?_)
  have hP : va_P (dC, dI) vwCl ([(h0, .inr (2, [.int (nI w1), .int (nI h1), .int (nI n), .ref q1, .ref q2, .null, .int 0, .int 0, .int 0, .int 0, .int 0, .int 0, .int 0])), (q1, .inl (cA 0, n, .inl (fun _ => 0))), (q2, .inl (cA 0, n, .inl (fun _ => 0)))]) H := hP
  have hD : va_D A ([(h0, .inr (2, [.int (nI w1), .int (nI h1), .int (nI n), .ref q1, .ref q2, .null, .int 0, .int 0, .int 0, .int 0, .int 0, .int 0, .int 0])), (q1, .inl (cA 0, n, .inl (fun _ => 0))), (q2, .inl (cA 0, n, .inl (fun _ => 0)))]) := hD
  refine lv_aload_n hx hb dX3_init_65 rfl (lv_at hl 0 rfl) ?_
  refine lv_bipush (v := 6) hx hb dX3_init_66 (by decide) ?_
  refine xnewL hx hb hown (hts _ (xm m49)) hAO hK hP hD hS hA (N' := 6) (by decide) (by decide) (by decide) (Nat.le_of_ble_eq_true rfl) (show (0 + n + n) + 6 ≤ 4700 by omega) dX3_init_68 (fun q3 H hP hD hS => ?_)
  have hP : va_P (dC, dI) vwCl ([(h0, .inr (2, [.int (nI w1), .int (nI h1), .int (nI n), .ref q1, .ref q2, .null, .int 0, .int 0, .int 0, .int 0, .int 0, .int 0, .int 0])), (q1, .inl (cA 0, n, .inl (fun _ => 0))), (q2, .inl (cA 0, n, .inl (fun _ => 0))), (q3, .inl (cA 2, 6, .inr (.inr (.inr (.inr (fun _ => none))))))]) H := hP
  have hD : va_D A ([(h0, .inr (2, [.int (nI w1), .int (nI h1), .int (nI n), .ref q1, .ref q2, .null, .int 0, .int 0, .int 0, .int 0, .int 0, .int 0, .int 0])), (q1, .inl (cA 0, n, .inl (fun _ => 0))), (q2, .inl (cA 0, n, .inl (fun _ => 0))), (q3, .inl (cA 2, 6, .inr (.inr (.inr (.inr (fun _ => none))))))]) := hD
  refine va_putF (D := (dC, dI)) (ci := 2) (v := .ref q3) (ty := .array (.object "BlendRows$Layer")) (C := RX3) (T := TX3) (N := 13) hx hb hts iX3 tyX3 tyX3_ok nmX3 hown hK hP hD hS 0 rfl rfl 5 (by decide) (hts _ (xm m84)) (fun _ h9 => h9) rfl hin rfl (by decide +kernel) rfl rfl (Nat.le_of_ble_eq_true rfl) dX3_init_71 (fun H locs hP hD hS => ?_)
  have hP : va_P (dC, dI) vwCl ([(h0, .inr (2, [.int (nI w1), .int (nI h1), .int (nI n), .ref q1, .ref q2, .ref q3, .int 0, .int 0, .int 0, .int 0, .int 0, .int 0, .int 0])), (q1, .inl (cA 0, n, .inl (fun _ => 0))), (q2, .inl (cA 0, n, .inl (fun _ => 0))), (q3, .inl (cA 2, 6, .inr (.inr (.inr (.inr (fun _ => none))))))]) H := hP
  have hD : va_D A ([(h0, .inr (2, [.int (nI w1), .int (nI h1), .int (nI n), .ref q1, .ref q2, .ref q3, .int 0, .int 0, .int 0, .int 0, .int 0, .int 0, .int 0])), (q1, .inl (cA 0, n, .inl (fun _ => 0))), (q2, .inl (cA 0, n, .inl (fun _ => 0))), (q3, .inl (cA 2, 6, .inr (.inr (.inr (.inr (fun _ => none))))))]) := hD
  refine lv_iconst (v := 0) hx hb dX3_init_74 (by decide) ?_
  refine lv_istore_n (lv' := [(3, .int 0), (0, .ref h0), (1, .int p0), (2, .int p1)]) hx hb dX3_init_75 rfl hl (by decide) rfl (fun ls hl => ?_)
  refine W.eq (g2 := F0 m 76 ls []) rfl ?_
  refine lv_iload_n hx hb dX3_init_76 rfl (lv_at hl 0 rfl) ?_
  refine lv_bipush (v := 6) hx hb dX3_init_77 (by decide) ?_
  refine lv_icmp_ge (tgt := 105) hx hb dX3_init_79 (by decide) (fun c9 => absurd c9 (by decide)) (fun _ => ?_)
  refine lv_aload_n hx hb dX3_init_82 rfl (lv_at hl 1 rfl) ?_
  refine va_get (D := (dC, dI)) (ci := 2) (v := .ref q3) (C := RX3) (T := TX3) (N := 13) hx hb hts iX3 hown hK hP 0 rfl rfl 5 (by decide) (hts _ (xm m84)) (fun _ h9 => h9) rfl dX3_init_83 ?_
  refine lv_iload_n hx hb dX3_init_86 rfl (lv_at hl 0 rfl) ?_
  refine va_new (ci := 1) (fs := [.int 0, .null, .null, .null, .null, .null, .int 0]) (C := RX0) (T := TX0) (N := 7) hx hb hts iX0 tyX0 tyX0_ok hown (hts _ (xm m49)) (hts _ (xm m51)) (hts _ (xm m23)) hK hP hD hS hA rfl (fun j hj => by rcases (show j = 0 ∨ j = 1 ∨ j = 2 ∨ j = 3 ∨ j = 4 ∨ j = 5 ∨ j = 6 by omega) with rfl | rfl | rfl | rfl | rfl | rfl | rfl <;> rfl) (Nat.le_of_ble_eq_true rfl) (show (0 + n + n + 6) + 7 ≤ 4700 by omega) dX3_init_87 (fun z0 H hP hD hS => ?_)
  have hP : va_P (dC, dI) vwCl ([(h0, .inr (2, [.int (nI w1), .int (nI h1), .int (nI n), .ref q1, .ref q2, .ref q3, .int 0, .int 0, .int 0, .int 0, .int 0, .int 0, .int 0])), (q1, .inl (cA 0, n, .inl (fun _ => 0))), (q2, .inl (cA 0, n, .inl (fun _ => 0))), (q3, .inl (cA 2, 6, .inr (.inr (.inr (.inr (fun _ => none))))))] ++ [(z0, .inr (1, [.int 0, .null, .null, .null, .null, .null, .int 0]))]) H := hP
  have hD : va_D A ([(h0, .inr (2, [.int (nI w1), .int (nI h1), .int (nI n), .ref q1, .ref q2, .ref q3, .int 0, .int 0, .int 0, .int 0, .int 0, .int 0, .int 0])), (q1, .inl (cA 0, n, .inl (fun _ => 0))), (q2, .inl (cA 0, n, .inl (fun _ => 0))), (q3, .inl (cA 2, 6, .inr (.inr (.inr (.inr (fun _ => none))))))] ++ [(z0, .inr (1, [.int 0, .null, .null, .null, .null, .null, .int 0]))]) := hD
  refine lv_dup hx hb dX3_init_90 rfl ?_
  refine lv_aload_n hx hb dX3_init_91 rfl (lv_at hl 1 rfl) ?_
  refine va_get (D := (dC, dI)) (ci := 2) (v := .int (nI n)) (C := RX3) (T := TX3) (N := 13) hx hb hts iX3 hown hK hP 0 rfl rfl 2 (by decide) (hts _ (xm m81)) (fun _ h9 => h9) rfl dX3_init_92 ?_
  have hPc := hP.sub (ws' := [(z0, .inr (1, [.int 0, .null, .null, .null, .null, .null, .int 0]))]) [4] rfl
  have hDc := hD.sub (ws' := [(z0, .inr (1, [.int 0, .null, .null, .null, .null, .null, .int 0]))]) [4] (by decide) rfl
  have hFc := va_free (wc := [(z0, .inr (1, [.int 0, .null, .null, .null, .null, .null, .int 0]))]) hD hS hA [4] rfl
  refine va_callv (va_runI (As := [.int (nI n)]) (rest := [.ref z0, .int 0, .ref q3]) ⟨hx, hb, hml, hown, hts⟩ (c_X0_init l dC dI cA z0 n hn9 _) (gcI 1 hts m54 m52 m53 m23 rfl rfl rfl (by decide +kernel) ⟨Nat.le_of_ble_eq_true rfl, Nat.le_of_ble_eq_true rfl⟩) ⟨xbl2, fun U hU hW => ⟨rfl, by rw [hU], by rw [hU]; exact hPc, va_K.moved hW.alike hK, hDc.weaken (fun _ _ _ _ => trivial)⟩⟩ rfl rfl hl.1 rfl (lv_room (Nat.le_of_ble_eq_true rfl)) dX3_init_95 ⟨Nat.le_of_ble_eq_true rfl, show (0 + n + n + 6 + 7) + 720 ≤ 4700 by omega⟩) hS (fun q _ h => hFc q h) hFc (fun g0 t H1 locs ht hvm hw9 hB hz1 hk1 hS => ?_)
  obtain ⟨hP1, hK1, hD1⟩ := hB
  rw [ht] at hP1
  have hJ := va_join (wr := ([(h0, .inr (2, [.int (nI w1), .int (nI h1), .int (nI n), .ref q1, .ref q2, .ref q3, .int 0, .int 0, .int 0, .int 0, .int 0, .int 0, .int 0])), (q1, .inl (cA 0, n, .inl (fun _ => 0))), (q2, .inl (cA 0, n, .inl (fun _ => 0))), (q3, .inl (cA 2, 6, .inr (.inr (.inr (.inr (fun _ => none))))))])) (w1 := w_ly g0 cA n (ly0 (nI n))) hP hD [4] [0, 1, 2, 3] rfl rfl (by decide) (by decide) hk1 hFc hP1 hD1
  have hP : va_P (dC, dI) vwCl ([(h0, .inr (2, [.int (nI w1), .int (nI h1), .int (nI n), .ref q1, .ref q2, .ref q3, .int 0, .int 0, .int 0, .int 0, .int 0, .int 0, .int 0])), (q1, .inl (cA 0, n, .inl (fun _ => 0))), (q2, .inl (cA 0, n, .inl (fun _ => 0))), (q3, .inl (cA 2, 6, .inr (.inr (.inr (.inr (fun _ => none))))))] ++ w_ly g0 cA n (ly0 (nI n))) H1 := hJ.1
  have hD : va_D A ([(h0, .inr (2, [.int (nI w1), .int (nI h1), .int (nI n), .ref q1, .ref q2, .ref q3, .int 0, .int 0, .int 0, .int 0, .int 0, .int 0, .int 0])), (q1, .inl (cA 0, n, .inl (fun _ => 0))), (q2, .inl (cA 0, n, .inl (fun _ => 0))), (q3, .inl (cA 2, 6, .inr (.inr (.inr (.inr (fun _ => none))))))] ++ w_ly g0 cA n (ly0 (nI n))) := hJ.2
  clear hP1 hD1 hK1 hk1 hz1 hFc hDc hPc ht hJ
  generalize H1 = H at hP hS ⊢
  have hw9 : g0 0 = z0 := hw9
  refine xtopv (y := .ref (g0 0)) (by rw [hw9]) ?_
  clear hw9
  refine va_astq (i := 0) hx hb hK hP hD hS 3 2 4 1 rfl rfl rfl rfl (xin (by decide)) dX3_init_98 (fun H locs hP hD hS => ?_)
  have hP : va_P (dC, dI) vwCl ([(h0, .inr (2, [.int (nI w1), .int (nI h1), .int (nI n), .ref q1, .ref q2, .ref q3, .int 0, .int 0, .int 0, .int 0, .int 0, .int 0, .int 0])), (q1, .inl (cA 0, n, .inl (fun _ => 0))), (q2, .inl (cA 0, n, .inl (fun _ => 0))), (q3, .inl (cA 2, 6, .inr (.inr (.inr (.inr (va_up (fun _ => none) 0 (some (g0 0))))))))] ++ w_ly g0 cA n (ly0 (nI n))) H := hP
  have hD : va_D A ([(h0, .inr (2, [.int (nI w1), .int (nI h1), .int (nI n), .ref q1, .ref q2, .ref q3, .int 0, .int 0, .int 0, .int 0, .int 0, .int 0, .int 0])), (q1, .inl (cA 0, n, .inl (fun _ => 0))), (q2, .inl (cA 0, n, .inl (fun _ => 0))), (q3, .inl (cA 2, 6, .inr (.inr (.inr (.inr (va_up (fun _ => none) 0 (some (g0 0))))))))] ++ w_ly g0 cA n (ly0 (nI n))) := hD
  refine lv_iinc (v := 1) (lv' := [(3, .int 1), (0, .ref h0), (1, .int p0), (2, .int p1)]) hx hb dX3_init_99 hl (k := 0) rfl (by decide) (by decide) rfl (fun ls hl => ?_)
  refine lv_goto (tgt := 76) hx hb dX3_init_102 (by decide) ?_
  refine W.eq (g2 := F0 m 76 ls []) rfl ?_
  refine lv_iload_n hx hb dX3_init_76 rfl (lv_at hl 0 rfl) ?_
  refine lv_bipush (v := 6) hx hb dX3_init_77 (by decide) ?_
  refine lv_icmp_ge (tgt := 105) hx hb dX3_init_79 (by decide) (fun c9 => absurd c9 (by decide)) (fun _ => ?_)
  refine lv_aload_n hx hb dX3_init_82 rfl (lv_at hl 1 rfl) ?_
  refine va_get (D := (dC, dI)) (ci := 2) (v := .ref q3) (C := RX3) (T := TX3) (N := 13) hx hb hts iX3 hown hK hP 0 rfl rfl 5 (by decide) (hts _ (xm m84)) (fun _ h9 => h9) rfl dX3_init_83 ?_
  refine lv_iload_n hx hb dX3_init_86 rfl (lv_at hl 0 rfl) ?_
  refine va_new (ci := 1) (fs := [.int 0, .null, .null, .null, .null, .null, .int 0]) (C := RX0) (T := TX0) (N := 7) hx hb hts iX0 tyX0 tyX0_ok hown (hts _ (xm m49)) (hts _ (xm m51)) (hts _ (xm m23)) hK hP hD hS hA rfl (fun j hj => by rcases (show j = 0 ∨ j = 1 ∨ j = 2 ∨ j = 3 ∨ j = 4 ∨ j = 5 ∨ j = 6 by omega) with rfl | rfl | rfl | rfl | rfl | rfl | rfl <;> rfl) (Nat.le_of_ble_eq_true rfl) (show (0 + n + n + 6 + 7 + 720) + 7 ≤ 4700 by omega) dX3_init_87 (fun z1 H hP hD hS => ?_)
  have hP : va_P (dC, dI) vwCl ([(h0, .inr (2, [.int (nI w1), .int (nI h1), .int (nI n), .ref q1, .ref q2, .ref q3, .int 0, .int 0, .int 0, .int 0, .int 0, .int 0, .int 0])), (q1, .inl (cA 0, n, .inl (fun _ => 0))), (q2, .inl (cA 0, n, .inl (fun _ => 0))), (q3, .inl (cA 2, 6, .inr (.inr (.inr (.inr (va_up (fun _ => none) 0 (some (g0 0))))))))] ++ w_ly g0 cA n (ly0 (nI n)) ++ [(z1, .inr (1, [.int 0, .null, .null, .null, .null, .null, .int 0]))]) H := hP
  have hD : va_D A ([(h0, .inr (2, [.int (nI w1), .int (nI h1), .int (nI n), .ref q1, .ref q2, .ref q3, .int 0, .int 0, .int 0, .int 0, .int 0, .int 0, .int 0])), (q1, .inl (cA 0, n, .inl (fun _ => 0))), (q2, .inl (cA 0, n, .inl (fun _ => 0))), (q3, .inl (cA 2, 6, .inr (.inr (.inr (.inr (va_up (fun _ => none) 0 (some (g0 0))))))))] ++ w_ly g0 cA n (ly0 (nI n)) ++ [(z1, .inr (1, [.int 0, .null, .null, .null, .null, .null, .int 0]))]) := hD
  refine lv_dup hx hb dX3_init_90 rfl ?_
  refine lv_aload_n hx hb dX3_init_91 rfl (lv_at hl 1 rfl) ?_
  refine va_get (D := (dC, dI)) (ci := 2) (v := .int (nI n)) (C := RX3) (T := TX3) (N := 13) hx hb hts iX3 hown hK hP 0 rfl rfl 2 (by decide) (hts _ (xm m81)) (fun _ h9 => h9) rfl dX3_init_92 ?_
  have hPc := hP.sub (ws' := [(z1, .inr (1, [.int 0, .null, .null, .null, .null, .null, .int 0]))]) [10] rfl
  have hDc := hD.sub (ws' := [(z1, .inr (1, [.int 0, .null, .null, .null, .null, .null, .int 0]))]) [10] (by decide) rfl
  have hFc := va_free (wc := [(z1, .inr (1, [.int 0, .null, .null, .null, .null, .null, .int 0]))]) hD hS hA [10] rfl
  refine va_callv (va_runI (As := [.int (nI n)]) (rest := [.ref z1, .int 1, .ref q3]) ⟨hx, hb, hml, hown, hts⟩ (c_X0_init l dC dI cA z1 n hn9 _) (gcI 1 hts m54 m52 m53 m23 rfl rfl rfl (by decide +kernel) ⟨Nat.le_of_ble_eq_true rfl, Nat.le_of_ble_eq_true rfl⟩) ⟨xbl2, fun U hU hW => ⟨rfl, by rw [hU], by rw [hU]; exact hPc, va_K.moved hW.alike hK, hDc.weaken (fun _ _ _ _ => trivial)⟩⟩ rfl rfl hl.1 rfl (lv_room (Nat.le_of_ble_eq_true rfl)) dX3_init_95 ⟨Nat.le_of_ble_eq_true rfl, show (0 + n + n + 6 + 7 + 720 + 7) + 720 ≤ 4700 by omega⟩) hS (fun q _ h => hFc q h) hFc (fun g1 t H1 locs ht hvm hw9 hB hz1 hk1 hS => ?_)
  obtain ⟨hP1, hK1, hD1⟩ := hB
  rw [ht] at hP1
  have hJ := va_join (wr := ([(h0, .inr (2, [.int (nI w1), .int (nI h1), .int (nI n), .ref q1, .ref q2, .ref q3, .int 0, .int 0, .int 0, .int 0, .int 0, .int 0, .int 0])), (q1, .inl (cA 0, n, .inl (fun _ => 0))), (q2, .inl (cA 0, n, .inl (fun _ => 0))), (q3, .inl (cA 2, 6, .inr (.inr (.inr (.inr (va_up (fun _ => none) 0 (some (g0 0))))))))] ++ w_ly g0 cA n (ly0 (nI n)))) (w1 := w_ly g1 cA n (ly0 (nI n))) hP hD [10] [0, 1, 2, 3, 4, 5, 6, 7, 8, 9] rfl rfl (by decide) (by decide) hk1 hFc hP1 hD1
  have hP : va_P (dC, dI) vwCl ([(h0, .inr (2, [.int (nI w1), .int (nI h1), .int (nI n), .ref q1, .ref q2, .ref q3, .int 0, .int 0, .int 0, .int 0, .int 0, .int 0, .int 0])), (q1, .inl (cA 0, n, .inl (fun _ => 0))), (q2, .inl (cA 0, n, .inl (fun _ => 0))), (q3, .inl (cA 2, 6, .inr (.inr (.inr (.inr (va_up (fun _ => none) 0 (some (g0 0))))))))] ++ w_ly g0 cA n (ly0 (nI n)) ++ w_ly g1 cA n (ly0 (nI n))) H1 := hJ.1
  have hD : va_D A ([(h0, .inr (2, [.int (nI w1), .int (nI h1), .int (nI n), .ref q1, .ref q2, .ref q3, .int 0, .int 0, .int 0, .int 0, .int 0, .int 0, .int 0])), (q1, .inl (cA 0, n, .inl (fun _ => 0))), (q2, .inl (cA 0, n, .inl (fun _ => 0))), (q3, .inl (cA 2, 6, .inr (.inr (.inr (.inr (va_up (fun _ => none) 0 (some (g0 0))))))))] ++ w_ly g0 cA n (ly0 (nI n)) ++ w_ly g1 cA n (ly0 (nI n))) := hJ.2
  clear hP1 hD1 hK1 hk1 hz1 hFc hDc hPc ht hJ
  generalize H1 = H at hP hS ⊢
  have hw9 : g1 0 = z1 := hw9
  refine xtopv (y := .ref (g1 0)) (by rw [hw9]) ?_
  clear hw9
  refine va_astq (i := 1) hx hb hK hP hD hS 3 2 10 1 rfl rfl rfl rfl (xin (by decide)) dX3_init_98 (fun H locs hP hD hS => ?_)
  have hP : va_P (dC, dI) vwCl ([(h0, .inr (2, [.int (nI w1), .int (nI h1), .int (nI n), .ref q1, .ref q2, .ref q3, .int 0, .int 0, .int 0, .int 0, .int 0, .int 0, .int 0])), (q1, .inl (cA 0, n, .inl (fun _ => 0))), (q2, .inl (cA 0, n, .inl (fun _ => 0))), (q3, .inl (cA 2, 6, .inr (.inr (.inr (.inr (va_up (va_up (fun _ => none) 0 (some (g0 0))) 1 (some (g1 0))))))))] ++ w_ly g0 cA n (ly0 (nI n)) ++ w_ly g1 cA n (ly0 (nI n))) H := hP
  have hD : va_D A ([(h0, .inr (2, [.int (nI w1), .int (nI h1), .int (nI n), .ref q1, .ref q2, .ref q3, .int 0, .int 0, .int 0, .int 0, .int 0, .int 0, .int 0])), (q1, .inl (cA 0, n, .inl (fun _ => 0))), (q2, .inl (cA 0, n, .inl (fun _ => 0))), (q3, .inl (cA 2, 6, .inr (.inr (.inr (.inr (va_up (va_up (fun _ => none) 0 (some (g0 0))) 1 (some (g1 0))))))))] ++ w_ly g0 cA n (ly0 (nI n)) ++ w_ly g1 cA n (ly0 (nI n))) := hD
  refine lv_iinc (v := 2) (lv' := [(3, .int 2), (0, .ref h0), (1, .int p0), (2, .int p1)]) hx hb dX3_init_99 hl (k := 0) rfl (by decide) (by decide) rfl (fun ls hl => ?_)
  refine lv_goto (tgt := 76) hx hb dX3_init_102 (by decide) ?_
  refine W.eq (g2 := F0 m 76 ls []) rfl ?_
  refine lv_iload_n hx hb dX3_init_76 rfl (lv_at hl 0 rfl) ?_
  refine lv_bipush (v := 6) hx hb dX3_init_77 (by decide) ?_
  refine lv_icmp_ge (tgt := 105) hx hb dX3_init_79 (by decide) (fun c9 => absurd c9 (by decide)) (fun _ => ?_)
  refine lv_aload_n hx hb dX3_init_82 rfl (lv_at hl 1 rfl) ?_
  refine va_get (D := (dC, dI)) (ci := 2) (v := .ref q3) (C := RX3) (T := TX3) (N := 13) hx hb hts iX3 hown hK hP 0 rfl rfl 5 (by decide) (hts _ (xm m84)) (fun _ h9 => h9) rfl dX3_init_83 ?_
  refine lv_iload_n hx hb dX3_init_86 rfl (lv_at hl 0 rfl) ?_
  refine va_new (ci := 1) (fs := [.int 0, .null, .null, .null, .null, .null, .int 0]) (C := RX0) (T := TX0) (N := 7) hx hb hts iX0 tyX0 tyX0_ok hown (hts _ (xm m49)) (hts _ (xm m51)) (hts _ (xm m23)) hK hP hD hS hA rfl (fun j hj => by rcases (show j = 0 ∨ j = 1 ∨ j = 2 ∨ j = 3 ∨ j = 4 ∨ j = 5 ∨ j = 6 by omega) with rfl | rfl | rfl | rfl | rfl | rfl | rfl <;> rfl) (Nat.le_of_ble_eq_true rfl) (show (0 + n + n + 6 + 7 + 720 + 7 + 720) + 7 ≤ 4700 by omega) dX3_init_87 (fun z2 H hP hD hS => ?_)
  have hP : va_P (dC, dI) vwCl ([(h0, .inr (2, [.int (nI w1), .int (nI h1), .int (nI n), .ref q1, .ref q2, .ref q3, .int 0, .int 0, .int 0, .int 0, .int 0, .int 0, .int 0])), (q1, .inl (cA 0, n, .inl (fun _ => 0))), (q2, .inl (cA 0, n, .inl (fun _ => 0))), (q3, .inl (cA 2, 6, .inr (.inr (.inr (.inr (va_up (va_up (fun _ => none) 0 (some (g0 0))) 1 (some (g1 0))))))))] ++ w_ly g0 cA n (ly0 (nI n)) ++ w_ly g1 cA n (ly0 (nI n)) ++ [(z2, .inr (1, [.int 0, .null, .null, .null, .null, .null, .int 0]))]) H := hP
  have hD : va_D A ([(h0, .inr (2, [.int (nI w1), .int (nI h1), .int (nI n), .ref q1, .ref q2, .ref q3, .int 0, .int 0, .int 0, .int 0, .int 0, .int 0, .int 0])), (q1, .inl (cA 0, n, .inl (fun _ => 0))), (q2, .inl (cA 0, n, .inl (fun _ => 0))), (q3, .inl (cA 2, 6, .inr (.inr (.inr (.inr (va_up (va_up (fun _ => none) 0 (some (g0 0))) 1 (some (g1 0))))))))] ++ w_ly g0 cA n (ly0 (nI n)) ++ w_ly g1 cA n (ly0 (nI n)) ++ [(z2, .inr (1, [.int 0, .null, .null, .null, .null, .null, .int 0]))]) := hD
  refine lv_dup hx hb dX3_init_90 rfl ?_
  refine lv_aload_n hx hb dX3_init_91 rfl (lv_at hl 1 rfl) ?_
  refine va_get (D := (dC, dI)) (ci := 2) (v := .int (nI n)) (C := RX3) (T := TX3) (N := 13) hx hb hts iX3 hown hK hP 0 rfl rfl 2 (by decide) (hts _ (xm m81)) (fun _ h9 => h9) rfl dX3_init_92 ?_
  have hPc := hP.sub (ws' := [(z2, .inr (1, [.int 0, .null, .null, .null, .null, .null, .int 0]))]) [16] rfl
  have hDc := hD.sub (ws' := [(z2, .inr (1, [.int 0, .null, .null, .null, .null, .null, .int 0]))]) [16] (by decide) rfl
  have hFc := va_free (wc := [(z2, .inr (1, [.int 0, .null, .null, .null, .null, .null, .int 0]))]) hD hS hA [16] rfl
  refine va_callv (va_runI (As := [.int (nI n)]) (rest := [.ref z2, .int 2, .ref q3]) ⟨hx, hb, hml, hown, hts⟩ (c_X0_init l dC dI cA z2 n hn9 _) (gcI 1 hts m54 m52 m53 m23 rfl rfl rfl (by decide +kernel) ⟨Nat.le_of_ble_eq_true rfl, Nat.le_of_ble_eq_true rfl⟩) ⟨xbl2, fun U hU hW => ⟨rfl, by rw [hU], by rw [hU]; exact hPc, va_K.moved hW.alike hK, hDc.weaken (fun _ _ _ _ => trivial)⟩⟩ rfl rfl hl.1 rfl (lv_room (Nat.le_of_ble_eq_true rfl)) dX3_init_95 ⟨Nat.le_of_ble_eq_true rfl, show (0 + n + n + 6 + 7 + 720 + 7 + 720 + 7) + 720 ≤ 4700 by omega⟩) hS (fun q _ h => hFc q h) hFc (fun g2 t H1 locs ht hvm hw9 hB hz1 hk1 hS => ?_)
  obtain ⟨hP1, hK1, hD1⟩ := hB
  rw [ht] at hP1
  have hJ := va_join (wr := ([(h0, .inr (2, [.int (nI w1), .int (nI h1), .int (nI n), .ref q1, .ref q2, .ref q3, .int 0, .int 0, .int 0, .int 0, .int 0, .int 0, .int 0])), (q1, .inl (cA 0, n, .inl (fun _ => 0))), (q2, .inl (cA 0, n, .inl (fun _ => 0))), (q3, .inl (cA 2, 6, .inr (.inr (.inr (.inr (va_up (va_up (fun _ => none) 0 (some (g0 0))) 1 (some (g1 0))))))))] ++ w_ly g0 cA n (ly0 (nI n)) ++ w_ly g1 cA n (ly0 (nI n)))) (w1 := w_ly g2 cA n (ly0 (nI n))) hP hD [16] [0, 1, 2, 3, 4, 5, 6, 7, 8, 9, 10, 11, 12, 13, 14, 15] rfl rfl (by decide) (by decide) hk1 hFc hP1 hD1
  have hP : va_P (dC, dI) vwCl ([(h0, .inr (2, [.int (nI w1), .int (nI h1), .int (nI n), .ref q1, .ref q2, .ref q3, .int 0, .int 0, .int 0, .int 0, .int 0, .int 0, .int 0])), (q1, .inl (cA 0, n, .inl (fun _ => 0))), (q2, .inl (cA 0, n, .inl (fun _ => 0))), (q3, .inl (cA 2, 6, .inr (.inr (.inr (.inr (va_up (va_up (fun _ => none) 0 (some (g0 0))) 1 (some (g1 0))))))))] ++ w_ly g0 cA n (ly0 (nI n)) ++ w_ly g1 cA n (ly0 (nI n)) ++ w_ly g2 cA n (ly0 (nI n))) H1 := hJ.1
  have hD : va_D A ([(h0, .inr (2, [.int (nI w1), .int (nI h1), .int (nI n), .ref q1, .ref q2, .ref q3, .int 0, .int 0, .int 0, .int 0, .int 0, .int 0, .int 0])), (q1, .inl (cA 0, n, .inl (fun _ => 0))), (q2, .inl (cA 0, n, .inl (fun _ => 0))), (q3, .inl (cA 2, 6, .inr (.inr (.inr (.inr (va_up (va_up (fun _ => none) 0 (some (g0 0))) 1 (some (g1 0))))))))] ++ w_ly g0 cA n (ly0 (nI n)) ++ w_ly g1 cA n (ly0 (nI n)) ++ w_ly g2 cA n (ly0 (nI n))) := hJ.2
  clear hP1 hD1 hK1 hk1 hz1 hFc hDc hPc ht hJ
  generalize H1 = H at hP hS ⊢
  have hw9 : g2 0 = z2 := hw9
  refine xtopv (y := .ref (g2 0)) (by rw [hw9]) ?_
  clear hw9
  refine va_astq (i := 2) hx hb hK hP hD hS 3 2 16 1 rfl rfl rfl rfl (xin (by decide)) dX3_init_98 (fun H locs hP hD hS => ?_)
  have hP : va_P (dC, dI) vwCl ([(h0, .inr (2, [.int (nI w1), .int (nI h1), .int (nI n), .ref q1, .ref q2, .ref q3, .int 0, .int 0, .int 0, .int 0, .int 0, .int 0, .int 0])), (q1, .inl (cA 0, n, .inl (fun _ => 0))), (q2, .inl (cA 0, n, .inl (fun _ => 0))), (q3, .inl (cA 2, 6, .inr (.inr (.inr (.inr (va_up (va_up (va_up (fun _ => none) 0 (some (g0 0))) 1 (some (g1 0))) 2 (some (g2 0))))))))] ++ w_ly g0 cA n (ly0 (nI n)) ++ w_ly g1 cA n (ly0 (nI n)) ++ w_ly g2 cA n (ly0 (nI n))) H := hP
  have hD : va_D A ([(h0, .inr (2, [.int (nI w1), .int (nI h1), .int (nI n), .ref q1, .ref q2, .ref q3, .int 0, .int 0, .int 0, .int 0, .int 0, .int 0, .int 0])), (q1, .inl (cA 0, n, .inl (fun _ => 0))), (q2, .inl (cA 0, n, .inl (fun _ => 0))), (q3, .inl (cA 2, 6, .inr (.inr (.inr (.inr (va_up (va_up (va_up (fun _ => none) 0 (some (g0 0))) 1 (some (g1 0))) 2 (some (g2 0))))))))] ++ w_ly g0 cA n (ly0 (nI n)) ++ w_ly g1 cA n (ly0 (nI n)) ++ w_ly g2 cA n (ly0 (nI n))) := hD
  refine lv_iinc (v := 3) (lv' := [(3, .int 3), (0, .ref h0), (1, .int p0), (2, .int p1)]) hx hb dX3_init_99 hl (k := 0) rfl (by decide) (by decide) rfl (fun ls hl => ?_)
  refine lv_goto (tgt := 76) hx hb dX3_init_102 (by decide) ?_
  refine W.eq (g2 := F0 m 76 ls []) rfl ?_
  refine lv_iload_n hx hb dX3_init_76 rfl (lv_at hl 0 rfl) ?_
  refine lv_bipush (v := 6) hx hb dX3_init_77 (by decide) ?_
  refine lv_icmp_ge (tgt := 105) hx hb dX3_init_79 (by decide) (fun c9 => absurd c9 (by decide)) (fun _ => ?_)
  refine lv_aload_n hx hb dX3_init_82 rfl (lv_at hl 1 rfl) ?_
  refine va_get (D := (dC, dI)) (ci := 2) (v := .ref q3) (C := RX3) (T := TX3) (N := 13) hx hb hts iX3 hown hK hP 0 rfl rfl 5 (by decide) (hts _ (xm m84)) (fun _ h9 => h9) rfl dX3_init_83 ?_
  refine lv_iload_n hx hb dX3_init_86 rfl (lv_at hl 0 rfl) ?_
  refine va_new (ci := 1) (fs := [.int 0, .null, .null, .null, .null, .null, .int 0]) (C := RX0) (T := TX0) (N := 7) hx hb hts iX0 tyX0 tyX0_ok hown (hts _ (xm m49)) (hts _ (xm m51)) (hts _ (xm m23)) hK hP hD hS hA rfl (fun j hj => by rcases (show j = 0 ∨ j = 1 ∨ j = 2 ∨ j = 3 ∨ j = 4 ∨ j = 5 ∨ j = 6 by omega) with rfl | rfl | rfl | rfl | rfl | rfl | rfl <;> rfl) (Nat.le_of_ble_eq_true rfl) (show (0 + n + n + 6 + 7 + 720 + 7 + 720 + 7 + 720) + 7 ≤ 4700 by omega) dX3_init_87 (fun z3 H hP hD hS => ?_)
  have hP : va_P (dC, dI) vwCl ([(h0, .inr (2, [.int (nI w1), .int (nI h1), .int (nI n), .ref q1, .ref q2, .ref q3, .int 0, .int 0, .int 0, .int 0, .int 0, .int 0, .int 0])), (q1, .inl (cA 0, n, .inl (fun _ => 0))), (q2, .inl (cA 0, n, .inl (fun _ => 0))), (q3, .inl (cA 2, 6, .inr (.inr (.inr (.inr (va_up (va_up (va_up (fun _ => none) 0 (some (g0 0))) 1 (some (g1 0))) 2 (some (g2 0))))))))] ++ w_ly g0 cA n (ly0 (nI n)) ++ w_ly g1 cA n (ly0 (nI n)) ++ w_ly g2 cA n (ly0 (nI n)) ++ [(z3, .inr (1, [.int 0, .null, .null, .null, .null, .null, .int 0]))]) H := hP
  have hD : va_D A ([(h0, .inr (2, [.int (nI w1), .int (nI h1), .int (nI n), .ref q1, .ref q2, .ref q3, .int 0, .int 0, .int 0, .int 0, .int 0, .int 0, .int 0])), (q1, .inl (cA 0, n, .inl (fun _ => 0))), (q2, .inl (cA 0, n, .inl (fun _ => 0))), (q3, .inl (cA 2, 6, .inr (.inr (.inr (.inr (va_up (va_up (va_up (fun _ => none) 0 (some (g0 0))) 1 (some (g1 0))) 2 (some (g2 0))))))))] ++ w_ly g0 cA n (ly0 (nI n)) ++ w_ly g1 cA n (ly0 (nI n)) ++ w_ly g2 cA n (ly0 (nI n)) ++ [(z3, .inr (1, [.int 0, .null, .null, .null, .null, .null, .int 0]))]) := hD
  refine lv_dup hx hb dX3_init_90 rfl ?_
  refine lv_aload_n hx hb dX3_init_91 rfl (lv_at hl 1 rfl) ?_
  refine va_get (D := (dC, dI)) (ci := 2) (v := .int (nI n)) (C := RX3) (T := TX3) (N := 13) hx hb hts iX3 hown hK hP 0 rfl rfl 2 (by decide) (hts _ (xm m81)) (fun _ h9 => h9) rfl dX3_init_92 ?_
  have hPc := hP.sub (ws' := [(z3, .inr (1, [.int 0, .null, .null, .null, .null, .null, .int 0]))]) [22] rfl
  have hDc := hD.sub (ws' := [(z3, .inr (1, [.int 0, .null, .null, .null, .null, .null, .int 0]))]) [22] (by decide) rfl
  have hFc := va_free (wc := [(z3, .inr (1, [.int 0, .null, .null, .null, .null, .null, .int 0]))]) hD hS hA [22] rfl
  refine va_callv (va_runI (As := [.int (nI n)]) (rest := [.ref z3, .int 3, .ref q3]) ⟨hx, hb, hml, hown, hts⟩ (c_X0_init l dC dI cA z3 n hn9 _) (gcI 1 hts m54 m52 m53 m23 rfl rfl rfl (by decide +kernel) ⟨Nat.le_of_ble_eq_true rfl, Nat.le_of_ble_eq_true rfl⟩) ⟨xbl2, fun U hU hW => ⟨rfl, by rw [hU], by rw [hU]; exact hPc, va_K.moved hW.alike hK, hDc.weaken (fun _ _ _ _ => trivial)⟩⟩ rfl rfl hl.1 rfl (lv_room (Nat.le_of_ble_eq_true rfl)) dX3_init_95 ⟨Nat.le_of_ble_eq_true rfl, show (0 + n + n + 6 + 7 + 720 + 7 + 720 + 7 + 720 + 7) + 720 ≤ 4700 by omega⟩) hS (fun q _ h => hFc q h) hFc (fun g3 t H1 locs ht hvm hw9 hB hz1 hk1 hS => ?_)
  obtain ⟨hP1, hK1, hD1⟩ := hB
  rw [ht] at hP1
  have hJ := va_join (wr := ([(h0, .inr (2, [.int (nI w1), .int (nI h1), .int (nI n), .ref q1, .ref q2, .ref q3, .int 0, .int 0, .int 0, .int 0, .int 0, .int 0, .int 0])), (q1, .inl (cA 0, n, .inl (fun _ => 0))), (q2, .inl (cA 0, n, .inl (fun _ => 0))), (q3, .inl (cA 2, 6, .inr (.inr (.inr (.inr (va_up (va_up (va_up (fun _ => none) 0 (some (g0 0))) 1 (some (g1 0))) 2 (some (g2 0))))))))] ++ w_ly g0 cA n (ly0 (nI n)) ++ w_ly g1 cA n (ly0 (nI n)) ++ w_ly g2 cA n (ly0 (nI n)))) (w1 := w_ly g3 cA n (ly0 (nI n))) hP hD [22] [0, 1, 2, 3, 4, 5, 6, 7, 8, 9, 10, 11, 12, 13, 14, 15, 16, 17, 18, 19, 20, 21] rfl rfl (by decide) (by decide) hk1 hFc hP1 hD1
  have hP : va_P (dC, dI) vwCl ([(h0, .inr (2, [.int (nI w1), .int (nI h1), .int (nI n), .ref q1, .ref q2, .ref q3, .int 0, .int 0, .int 0, .int 0, .int 0, .int 0, .int 0])), (q1, .inl (cA 0, n, .inl (fun _ => 0))), (q2, .inl (cA 0, n, .inl (fun _ => 0))), (q3, .inl (cA 2, 6, .inr (.inr (.inr (.inr (va_up (va_up (va_up (fun _ => none) 0 (some (g0 0))) 1 (some (g1 0))) 2 (some (g2 0))))))))] ++ w_ly g0 cA n (ly0 (nI n)) ++ w_ly g1 cA n (ly0 (nI n)) ++ w_ly g2 cA n (ly0 (nI n)) ++ w_ly g3 cA n (ly0 (nI n))) H1 := hJ.1
  have hD : va_D A ([(h0, .inr (2, [.int (nI w1), .int (nI h1), .int (nI n), .ref q1, .ref q2, .ref q3, .int 0, .int 0, .int 0, .int 0, .int 0, .int 0, .int 0])), (q1, .inl (cA 0, n, .inl (fun _ => 0))), (q2, .inl (cA 0, n, .inl (fun _ => 0))), (q3, .inl (cA 2, 6, .inr (.inr (.inr (.inr (va_up (va_up (va_up (fun _ => none) 0 (some (g0 0))) 1 (some (g1 0))) 2 (some (g2 0))))))))] ++ w_ly g0 cA n (ly0 (nI n)) ++ w_ly g1 cA n (ly0 (nI n)) ++ w_ly g2 cA n (ly0 (nI n)) ++ w_ly g3 cA n (ly0 (nI n))) := hJ.2
  clear hP1 hD1 hK1 hk1 hz1 hFc hDc hPc ht hJ
  generalize H1 = H at hP hS ⊢
  have hw9 : g3 0 = z3 := hw9
  refine xtopv (y := .ref (g3 0)) (by rw [hw9]) ?_
  clear hw9
  refine va_astq (i := 3) hx hb hK hP hD hS 3 2 22 1 rfl rfl rfl rfl (xin (by decide)) dX3_init_98 (fun H locs hP hD hS => ?_)
  have hP : va_P (dC, dI) vwCl ([(h0, .inr (2, [.int (nI w1), .int (nI h1), .int (nI n), .ref q1, .ref q2, .ref q3, .int 0, .int 0, .int 0, .int 0, .int 0, .int 0, .int 0])), (q1, .inl (cA 0, n, .inl (fun _ => 0))), (q2, .inl (cA 0, n, .inl (fun _ => 0))), (q3, .inl (cA 2, 6, .inr (.inr (.inr (.inr (va_up (va_up (va_up (va_up (fun _ => none) 0 (some (g0 0))) 1 (some (g1 0))) 2 (some (g2 0))) 3 (some (g3 0))))))))] ++ w_ly g0 cA n (ly0 (nI n)) ++ w_ly g1 cA n (ly0 (nI n)) ++ w_ly g2 cA n (ly0 (nI n)) ++ w_ly g3 cA n (ly0 (nI n))) H := hP
  have hD : va_D A ([(h0, .inr (2, [.int (nI w1), .int (nI h1), .int (nI n), .ref q1, .ref q2, .ref q3, .int 0, .int 0, .int 0, .int 0, .int 0, .int 0, .int 0])), (q1, .inl (cA 0, n, .inl (fun _ => 0))), (q2, .inl (cA 0, n, .inl (fun _ => 0))), (q3, .inl (cA 2, 6, .inr (.inr (.inr (.inr (va_up (va_up (va_up (va_up (fun _ => none) 0 (some (g0 0))) 1 (some (g1 0))) 2 (some (g2 0))) 3 (some (g3 0))))))))] ++ w_ly g0 cA n (ly0 (nI n)) ++ w_ly g1 cA n (ly0 (nI n)) ++ w_ly g2 cA n (ly0 (nI n)) ++ w_ly g3 cA n (ly0 (nI n))) := hD
  refine lv_iinc (v := 4) (lv' := [(3, .int 4), (0, .ref h0), (1, .int p0), (2, .int p1)]) hx hb dX3_init_99 hl (k := 0) rfl (by decide) (by decide) rfl (fun ls hl => ?_)
  refine lv_goto (tgt := 76) hx hb dX3_init_102 (by decide) ?_
  refine W.eq (g2 := F0 m 76 ls []) rfl ?_
  refine lv_iload_n hx hb dX3_init_76 rfl (lv_at hl 0 rfl) ?_
  refine lv_bipush (v := 6) hx hb dX3_init_77 (by decide) ?_
  refine lv_icmp_ge (tgt := 105) hx hb dX3_init_79 (by decide) (fun c9 => absurd c9 (by decide)) (fun _ => ?_)
  refine lv_aload_n hx hb dX3_init_82 rfl (lv_at hl 1 rfl) ?_
  refine va_get (D := (dC, dI)) (ci := 2) (v := .ref q3) (C := RX3) (T := TX3) (N := 13) hx hb hts iX3 hown hK hP 0 rfl rfl 5 (by decide) (hts _ (xm m84)) (fun _ h9 => h9) rfl dX3_init_83 ?_
  refine lv_iload_n hx hb dX3_init_86 rfl (lv_at hl 0 rfl) ?_
  refine va_new (ci := 1) (fs := [.int 0, .null, .null, .null, .null, .null, .int 0]) (C := RX0) (T := TX0) (N := 7) hx hb hts iX0 tyX0 tyX0_ok hown (hts _ (xm m49)) (hts _ (xm m51)) (hts _ (xm m23)) hK hP hD hS hA rfl (fun j hj => by rcases (show j = 0 ∨ j = 1 ∨ j = 2 ∨ j = 3 ∨ j = 4 ∨ j = 5 ∨ j = 6 by omega) with rfl | rfl | rfl | rfl | rfl | rfl | rfl <;> rfl) (Nat.le_of_ble_eq_true rfl) (show (0 + n + n + 6 + 7 + 720 + 7 + 720 + 7 + 720 + 7 + 720) + 7 ≤ 4700 by omega) dX3_init_87 (fun z4 H hP hD hS => ?_)
  have hP : va_P (dC, dI) vwCl ([(h0, .inr (2, [.int (nI w1), .int (nI h1), .int (nI n), .ref q1, .ref q2, .ref q3, .int 0, .int 0, .int 0, .int 0, .int 0, .int 0, .int 0])), (q1, .inl (cA 0, n, .inl (fun _ => 0))), (q2, .inl (cA 0, n, .inl (fun _ => 0))), (q3, .inl (cA 2, 6, .inr (.inr (.inr (.inr (va_up (va_up (va_up (va_up (fun _ => none) 0 (some (g0 0))) 1 (some (g1 0))) 2 (some (g2 0))) 3 (some (g3 0))))))))] ++ w_ly g0 cA n (ly0 (nI n)) ++ w_ly g1 cA n (ly0 (nI n)) ++ w_ly g2 cA n (ly0 (nI n)) ++ w_ly g3 cA n (ly0 (nI n)) ++ [(z4, .inr (1, [.int 0, .null, .null, .null, .null, .null, .int 0]))]) H := hP
  have hD : va_D A ([(h0, .inr (2, [.int (nI w1), .int (nI h1), .int (nI n), .ref q1, .ref q2, .ref q3, .int 0, .int 0, .int 0, .int 0, .int 0, .int 0, .int 0])), (q1, .inl (cA 0, n, .inl (fun _ => 0))), (q2, .inl (cA 0, n, .inl (fun _ => 0))), (q3, .inl (cA 2, 6, .inr (.inr (.inr (.inr (va_up (va_up (va_up (va_up (fun _ => none) 0 (some (g0 0))) 1 (some (g1 0))) 2 (some (g2 0))) 3 (some (g3 0))))))))] ++ w_ly g0 cA n (ly0 (nI n)) ++ w_ly g1 cA n (ly0 (nI n)) ++ w_ly g2 cA n (ly0 (nI n)) ++ w_ly g3 cA n (ly0 (nI n)) ++ [(z4, .inr (1, [.int 0, .null, .null, .null, .null, .null, .int 0]))]) := hD
  refine lv_dup hx hb dX3_init_90 rfl ?_
  refine lv_aload_n hx hb dX3_init_91 rfl (lv_at hl 1 rfl) ?_
  refine va_get (D := (dC, dI)) (ci := 2) (v := .int (nI n)) (C := RX3) (T := TX3) (N := 13) hx hb hts iX3 hown hK hP 0 rfl rfl 2 (by decide) (hts _ (xm m81)) (fun _ h9 => h9) rfl dX3_init_92 ?_
  have hPc := hP.sub (ws' := [(z4, .inr (1, [.int 0, .null, .null, .null, .null, .null, .int 0]))]) [28] rfl
  have hDc := hD.sub (ws' := [(z4, .inr (1, [.int 0, .null, .null, .null, .null, .null, .int 0]))]) [28] (by decide) rfl
  have hFc := va_free (wc := [(z4, .inr (1, [.int 0, .null, .null, .null, .null, .null, .int 0]))]) hD hS hA [28] rfl
  refine va_callv (va_runI (As := [.int (nI n)]) (rest := [.ref z4, .int 4, .ref q3]) ⟨hx, hb, hml, hown, hts⟩ (c_X0_init l dC dI cA z4 n hn9 _) (gcI 1 hts m54 m52 m53 m23 rfl rfl rfl (by decide +kernel) ⟨Nat.le_of_ble_eq_true rfl, Nat.le_of_ble_eq_true rfl⟩) ⟨xbl2, fun U hU hW => ⟨rfl, by rw [hU], by rw [hU]; exact hPc, va_K.moved hW.alike hK, hDc.weaken (fun _ _ _ _ => trivial)⟩⟩ rfl rfl hl.1 rfl (lv_room (Nat.le_of_ble_eq_true rfl)) dX3_init_95 ⟨Nat.le_of_ble_eq_true rfl, show (0 + n + n + 6 + 7 + 720 + 7 + 720 + 7 + 720 + 7 + 720 + 7) + 720 ≤ 4700 by omega⟩) hS (fun q _ h => hFc q h) hFc (fun g4 t H1 locs ht hvm hw9 hB hz1 hk1 hS => ?_)
  obtain ⟨hP1, hK1, hD1⟩ := hB
  rw [ht] at hP1
  have hJ := va_join (wr := ([(h0, .inr (2, [.int (nI w1), .int (nI h1), .int (nI n), .ref q1, .ref q2, .ref q3, .int 0, .int 0, .int 0, .int 0, .int 0, .int 0, .int 0])), (q1, .inl (cA 0, n, .inl (fun _ => 0))), (q2, .inl (cA 0, n, .inl (fun _ => 0))), (q3, .inl (cA 2, 6, .inr (.inr (.inr (.inr (va_up (va_up (va_up (va_up (fun _ => none) 0 (some (g0 0))) 1 (some (g1 0))) 2 (some (g2 0))) 3 (some (g3 0))))))))] ++ w_ly g0 cA n (ly0 (nI n)) ++ w_ly g1 cA n (ly0 (nI n)) ++ w_ly g2 cA n (ly0 (nI n)) ++ w_ly g3 cA n (ly0 (nI n)))) (w1 := w_ly g4 cA n (ly0 (nI n))) hP hD [28] [0, 1, 2, 3, 4, 5, 6, 7, 8, 9, 10, 11, 12, 13, 14, 15, 16, 17, 18, 19, 20, 21, 22, 23, 24, 25, 26, 27] rfl rfl (by decide) (by decide) hk1 hFc hP1 hD1
  have hP : va_P (dC, dI) vwCl ([(h0, .inr (2, [.int (nI w1), .int (nI h1), .int (nI n), .ref q1, .ref q2, .ref q3, .int 0, .int 0, .int 0, .int 0, .int 0, .int 0, .int 0])), (q1, .inl (cA 0, n, .inl (fun _ => 0))), (q2, .inl (cA 0, n, .inl (fun _ => 0))), (q3, .inl (cA 2, 6, .inr (.inr (.inr (.inr (va_up (va_up (va_up (va_up (fun _ => none) 0 (some (g0 0))) 1 (some (g1 0))) 2 (some (g2 0))) 3 (some (g3 0))))))))] ++ w_ly g0 cA n (ly0 (nI n)) ++ w_ly g1 cA n (ly0 (nI n)) ++ w_ly g2 cA n (ly0 (nI n)) ++ w_ly g3 cA n (ly0 (nI n)) ++ w_ly g4 cA n (ly0 (nI n))) H1 := hJ.1
  have hD : va_D A ([(h0, .inr (2, [.int (nI w1), .int (nI h1), .int (nI n), .ref q1, .ref q2, .ref q3, .int 0, .int 0, .int 0, .int 0, .int 0, .int 0, .int 0])), (q1, .inl (cA 0, n, .inl (fun _ => 0))), (q2, .inl (cA 0, n, .inl (fun _ => 0))), (q3, .inl (cA 2, 6, .inr (.inr (.inr (.inr (va_up (va_up (va_up (va_up (fun _ => none) 0 (some (g0 0))) 1 (some (g1 0))) 2 (some (g2 0))) 3 (some (g3 0))))))))] ++ w_ly g0 cA n (ly0 (nI n)) ++ w_ly g1 cA n (ly0 (nI n)) ++ w_ly g2 cA n (ly0 (nI n)) ++ w_ly g3 cA n (ly0 (nI n)) ++ w_ly g4 cA n (ly0 (nI n))) := hJ.2
  clear hP1 hD1 hK1 hk1 hz1 hFc hDc hPc ht hJ
  generalize H1 = H at hP hS ⊢
  have hw9 : g4 0 = z4 := hw9
  refine xtopv (y := .ref (g4 0)) (by rw [hw9]) ?_
  clear hw9
  refine va_astq (i := 4) hx hb hK hP hD hS 3 2 28 1 rfl rfl rfl rfl (xin (by decide)) dX3_init_98 (fun H locs hP hD hS => ?_)
  have hP : va_P (dC, dI) vwCl ([(h0, .inr (2, [.int (nI w1), .int (nI h1), .int (nI n), .ref q1, .ref q2, .ref q3, .int 0, .int 0, .int 0, .int 0, .int 0, .int 0, .int 0])), (q1, .inl (cA 0, n, .inl (fun _ => 0))), (q2, .inl (cA 0, n, .inl (fun _ => 0))), (q3, .inl (cA 2, 6, .inr (.inr (.inr (.inr (va_up (va_up (va_up (va_up (va_up (fun _ => none) 0 (some (g0 0))) 1 (some (g1 0))) 2 (some (g2 0))) 3 (some (g3 0))) 4 (some (g4 0))))))))] ++ w_ly g0 cA n (ly0 (nI n)) ++ w_ly g1 cA n (ly0 (nI n)) ++ w_ly g2 cA n (ly0 (nI n)) ++ w_ly g3 cA n (ly0 (nI n)) ++ w_ly g4 cA n (ly0 (nI n))) H := hP
  have hD : va_D A ([(h0, .inr (2, [.int (nI w1), .int (nI h1), .int (nI n), .ref q1, .ref q2, .ref q3, .int 0, .int 0, .int 0, .int 0, .int 0, .int 0, .int 0])), (q1, .inl (cA 0, n, .inl (fun _ => 0))), (q2, .inl (cA 0, n, .inl (fun _ => 0))), (q3, .inl (cA 2, 6, .inr (.inr (.inr (.inr (va_up (va_up (va_up (va_up (va_up (fun _ => none) 0 (some (g0 0))) 1 (some (g1 0))) 2 (some (g2 0))) 3 (some (g3 0))) 4 (some (g4 0))))))))] ++ w_ly g0 cA n (ly0 (nI n)) ++ w_ly g1 cA n (ly0 (nI n)) ++ w_ly g2 cA n (ly0 (nI n)) ++ w_ly g3 cA n (ly0 (nI n)) ++ w_ly g4 cA n (ly0 (nI n))) := hD
  refine lv_iinc (v := 5) (lv' := [(3, .int 5), (0, .ref h0), (1, .int p0), (2, .int p1)]) hx hb dX3_init_99 hl (k := 0) rfl (by decide) (by decide) rfl (fun ls hl => ?_)
  refine lv_goto (tgt := 76) hx hb dX3_init_102 (by decide) ?_
  refine W.eq (g2 := F0 m 76 ls []) rfl ?_
  refine lv_iload_n hx hb dX3_init_76 rfl (lv_at hl 0 rfl) ?_
  refine lv_bipush (v := 6) hx hb dX3_init_77 (by decide) ?_
  refine lv_icmp_ge (tgt := 105) hx hb dX3_init_79 (by decide) (fun c9 => absurd c9 (by decide)) (fun _ => ?_)
  refine lv_aload_n hx hb dX3_init_82 rfl (lv_at hl 1 rfl) ?_
  refine va_get (D := (dC, dI)) (ci := 2) (v := .ref q3) (C := RX3) (T := TX3) (N := 13) hx hb hts iX3 hown hK hP 0 rfl rfl 5 (by decide) (hts _ (xm m84)) (fun _ h9 => h9) rfl dX3_init_83 ?_
  refine lv_iload_n hx hb dX3_init_86 rfl (lv_at hl 0 rfl) ?_
  refine va_new (ci := 1) (fs := [.int 0, .null, .null, .null, .null, .null, .int 0]) (C := RX0) (T := TX0) (N := 7) hx hb hts iX0 tyX0 tyX0_ok hown (hts _ (xm m49)) (hts _ (xm m51)) (hts _ (xm m23)) hK hP hD hS hA rfl (fun j hj => by rcases (show j = 0 ∨ j = 1 ∨ j = 2 ∨ j = 3 ∨ j = 4 ∨ j = 5 ∨ j = 6 by omega) with rfl | rfl | rfl | rfl | rfl | rfl | rfl <;> rfl) (Nat.le_of_ble_eq_true rfl) (show (0 + n + n + 6 + 7 + 720 + 7 + 720 + 7 + 720 + 7 + 720 + 7 + 720) + 7 ≤ 4700 by omega) dX3_init_87 (fun z5 H hP hD hS => ?_)
  have hP : va_P (dC, dI) vwCl ([(h0, .inr (2, [.int (nI w1), .int (nI h1), .int (nI n), .ref q1, .ref q2, .ref q3, .int 0, .int 0, .int 0, .int 0, .int 0, .int 0, .int 0])), (q1, .inl (cA 0, n, .inl (fun _ => 0))), (q2, .inl (cA 0, n, .inl (fun _ => 0))), (q3, .inl (cA 2, 6, .inr (.inr (.inr (.inr (va_up (va_up (va_up (va_up (va_up (fun _ => none) 0 (some (g0 0))) 1 (some (g1 0))) 2 (some (g2 0))) 3 (some (g3 0))) 4 (some (g4 0))))))))] ++ w_ly g0 cA n (ly0 (nI n)) ++ w_ly g1 cA n (ly0 (nI n)) ++ w_ly g2 cA n (ly0 (nI n)) ++ w_ly g3 cA n (ly0 (nI n)) ++ w_ly g4 cA n (ly0 (nI n)) ++ [(z5, .inr (1, [.int 0, .null, .null, .null, .null, .null, .int 0]))]) H := hP
  have hD : va_D A ([(h0, .inr (2, [.int (nI w1), .int (nI h1), .int (nI n), .ref q1, .ref q2, .ref q3, .int 0, .int 0, .int 0, .int 0, .int 0, .int 0, .int 0])), (q1, .inl (cA 0, n, .inl (fun _ => 0))), (q2, .inl (cA 0, n, .inl (fun _ => 0))), (q3, .inl (cA 2, 6, .inr (.inr (.inr (.inr (va_up (va_up (va_up (va_up (va_up (fun _ => none) 0 (some (g0 0))) 1 (some (g1 0))) 2 (some (g2 0))) 3 (some (g3 0))) 4 (some (g4 0))))))))] ++ w_ly g0 cA n (ly0 (nI n)) ++ w_ly g1 cA n (ly0 (nI n)) ++ w_ly g2 cA n (ly0 (nI n)) ++ w_ly g3 cA n (ly0 (nI n)) ++ w_ly g4 cA n (ly0 (nI n)) ++ [(z5, .inr (1, [.int 0, .null, .null, .null, .null, .null, .int 0]))]) := hD
  refine lv_dup hx hb dX3_init_90 rfl ?_
  refine lv_aload_n hx hb dX3_init_91 rfl (lv_at hl 1 rfl) ?_
  refine va_get (D := (dC, dI)) (ci := 2) (v := .int (nI n)) (C := RX3) (T := TX3) (N := 13) hx hb hts iX3 hown hK hP 0 rfl rfl 2 (by decide) (hts _ (xm m81)) (fun _ h9 => h9) rfl dX3_init_92 ?_
  have hPc := hP.sub (ws' := [(z5, .inr (1, [.int 0, .null, .null, .null, .null, .null, .int 0]))]) [34] rfl
  have hDc := hD.sub (ws' := [(z5, .inr (1, [.int 0, .null, .null, .null, .null, .null, .int 0]))]) [34] (by decide) rfl
  have hFc := va_free (wc := [(z5, .inr (1, [.int 0, .null, .null, .null, .null, .null, .int 0]))]) hD hS hA [34] rfl
  refine va_callv (va_runI (As := [.int (nI n)]) (rest := [.ref z5, .int 5, .ref q3]) ⟨hx, hb, hml, hown, hts⟩ (c_X0_init l dC dI cA z5 n hn9 _) (gcI 1 hts m54 m52 m53 m23 rfl rfl rfl (by decide +kernel) ⟨Nat.le_of_ble_eq_true rfl, Nat.le_of_ble_eq_true rfl⟩) ⟨xbl2, fun U hU hW => ⟨rfl, by rw [hU], by rw [hU]; exact hPc, va_K.moved hW.alike hK, hDc.weaken (fun _ _ _ _ => trivial)⟩⟩ rfl rfl hl.1 rfl (lv_room (Nat.le_of_ble_eq_true rfl)) dX3_init_95 ⟨Nat.le_of_ble_eq_true rfl, show (0 + n + n + 6 + 7 + 720 + 7 + 720 + 7 + 720 + 7 + 720 + 7 + 720 + 7) + 720 ≤ 4700 by omega⟩) hS (fun q _ h => hFc q h) hFc (fun g5 t H1 locs ht hvm hw9 hB hz1 hk1 hS => ?_)
  obtain ⟨hP1, hK1, hD1⟩ := hB
  rw [ht] at hP1
  have hJ := va_join (wr := ([(h0, .inr (2, [.int (nI w1), .int (nI h1), .int (nI n), .ref q1, .ref q2, .ref q3, .int 0, .int 0, .int 0, .int 0, .int 0, .int 0, .int 0])), (q1, .inl (cA 0, n, .inl (fun _ => 0))), (q2, .inl (cA 0, n, .inl (fun _ => 0))), (q3, .inl (cA 2, 6, .inr (.inr (.inr (.inr (va_up (va_up (va_up (va_up (va_up (fun _ => none) 0 (some (g0 0))) 1 (some (g1 0))) 2 (some (g2 0))) 3 (some (g3 0))) 4 (some (g4 0))))))))] ++ w_ly g0 cA n (ly0 (nI n)) ++ w_ly g1 cA n (ly0 (nI n)) ++ w_ly g2 cA n (ly0 (nI n)) ++ w_ly g3 cA n (ly0 (nI n)) ++ w_ly g4 cA n (ly0 (nI n)))) (w1 := w_ly g5 cA n (ly0 (nI n))) hP hD [34] [0, 1, 2, 3, 4, 5, 6, 7, 8, 9, 10, 11, 12, 13, 14, 15, 16, 17, 18, 19, 20, 21, 22, 23, 24, 25, 26, 27, 28, 29, 30, 31, 32, 33] rfl rfl (by decide) (by decide) hk1 hFc hP1 hD1
  have hP : va_P (dC, dI) vwCl ([(h0, .inr (2, [.int (nI w1), .int (nI h1), .int (nI n), .ref q1, .ref q2, .ref q3, .int 0, .int 0, .int 0, .int 0, .int 0, .int 0, .int 0])), (q1, .inl (cA 0, n, .inl (fun _ => 0))), (q2, .inl (cA 0, n, .inl (fun _ => 0))), (q3, .inl (cA 2, 6, .inr (.inr (.inr (.inr (va_up (va_up (va_up (va_up (va_up (fun _ => none) 0 (some (g0 0))) 1 (some (g1 0))) 2 (some (g2 0))) 3 (some (g3 0))) 4 (some (g4 0))))))))] ++ w_ly g0 cA n (ly0 (nI n)) ++ w_ly g1 cA n (ly0 (nI n)) ++ w_ly g2 cA n (ly0 (nI n)) ++ w_ly g3 cA n (ly0 (nI n)) ++ w_ly g4 cA n (ly0 (nI n)) ++ w_ly g5 cA n (ly0 (nI n))) H1 := hJ.1
  have hD : va_D A ([(h0, .inr (2, [.int (nI w1), .int (nI h1), .int (nI n), .ref q1, .ref q2, .ref q3, .int 0, .int 0, .int 0, .int 0, .int 0, .int 0, .int 0])), (q1, .inl (cA 0, n, .inl (fun _ => 0))), (q2, .inl (cA 0, n, .inl (fun _ => 0))), (q3, .inl (cA 2, 6, .inr (.inr (.inr (.inr (va_up (va_up (va_up (va_up (va_up (fun _ => none) 0 (some (g0 0))) 1 (some (g1 0))) 2 (some (g2 0))) 3 (some (g3 0))) 4 (some (g4 0))))))))] ++ w_ly g0 cA n (ly0 (nI n)) ++ w_ly g1 cA n (ly0 (nI n)) ++ w_ly g2 cA n (ly0 (nI n)) ++ w_ly g3 cA n (ly0 (nI n)) ++ w_ly g4 cA n (ly0 (nI n)) ++ w_ly g5 cA n (ly0 (nI n))) := hJ.2
  clear hP1 hD1 hK1 hk1 hz1 hFc hDc hPc ht hJ
  generalize H1 = H at hP hS ⊢
  have hw9 : g5 0 = z5 := hw9
  refine xtopv (y := .ref (g5 0)) (by rw [hw9]) ?_
  clear hw9
  refine va_astq (i := 5) hx hb hK hP hD hS 3 2 34 1 rfl rfl rfl rfl (xin (by decide)) dX3_init_98 (fun H locs hP hD hS => ?_)
  have hP : va_P (dC, dI) vwCl ([(h0, .inr (2, [.int (nI w1), .int (nI h1), .int (nI n), .ref q1, .ref q2, .ref q3, .int 0, .int 0, .int 0, .int 0, .int 0, .int 0, .int 0])), (q1, .inl (cA 0, n, .inl (fun _ => 0))), (q2, .inl (cA 0, n, .inl (fun _ => 0))), (q3, .inl (cA 2, 6, .inr (.inr (.inr (.inr (va_up (va_up (va_up (va_up (va_up (va_up (fun _ => none) 0 (some (g0 0))) 1 (some (g1 0))) 2 (some (g2 0))) 3 (some (g3 0))) 4 (some (g4 0))) 5 (some (g5 0))))))))] ++ w_ly g0 cA n (ly0 (nI n)) ++ w_ly g1 cA n (ly0 (nI n)) ++ w_ly g2 cA n (ly0 (nI n)) ++ w_ly g3 cA n (ly0 (nI n)) ++ w_ly g4 cA n (ly0 (nI n)) ++ w_ly g5 cA n (ly0 (nI n))) H := hP
  have hD : va_D A ([(h0, .inr (2, [.int (nI w1), .int (nI h1), .int (nI n), .ref q1, .ref q2, .ref q3, .int 0, .int 0, .int 0, .int 0, .int 0, .int 0, .int 0])), (q1, .inl (cA 0, n, .inl (fun _ => 0))), (q2, .inl (cA 0, n, .inl (fun _ => 0))), (q3, .inl (cA 2, 6, .inr (.inr (.inr (.inr (va_up (va_up (va_up (va_up (va_up (va_up (fun _ => none) 0 (some (g0 0))) 1 (some (g1 0))) 2 (some (g2 0))) 3 (some (g3 0))) 4 (some (g4 0))) 5 (some (g5 0))))))))] ++ w_ly g0 cA n (ly0 (nI n)) ++ w_ly g1 cA n (ly0 (nI n)) ++ w_ly g2 cA n (ly0 (nI n)) ++ w_ly g3 cA n (ly0 (nI n)) ++ w_ly g4 cA n (ly0 (nI n)) ++ w_ly g5 cA n (ly0 (nI n))) := hD
  refine lv_iinc (v := 6) (lv' := [(3, .int 6), (0, .ref h0), (1, .int p0), (2, .int p1)]) hx hb dX3_init_99 hl (k := 0) rfl (by decide) (by decide) rfl (fun ls hl => ?_)
  refine lv_goto (tgt := 76) hx hb dX3_init_102 (by decide) ?_
  refine lv_iload_n hx hb dX3_init_76 rfl (lv_at hl 0 rfl) ?_
  refine lv_bipush (v := 6) hx hb dX3_init_77 (by decide) ?_
  refine lv_icmp_ge (tgt := 105) hx hb dX3_init_79 (by decide) (fun _ => ?_) (fun c9 => absurd (by decide) c9)
  obtain ⟨gl, hgl⟩ : ∃ g : Nat → Nat → Nat, g = (fun k => [g0, g1, g2, g3, g4, g5].getD k g0) := ⟨_, rfl⟩
  obtain ⟨ga, hg⟩ : ∃ g : Nat → Nat, g = (fun k => [h0, q1, q2, q3].getD k 0) := ⟨_, rfl⟩
  have hg0 : ga 0 = h0 := by rw [hg]; rfl
  have hq9 := xq6 (F' := fun j => some (gl j 0)) (hP 3 _ rfl) (fun j hj => by rcases (show j = 0 ∨ j = 1 ∨ j = 2 ∨ j = 3 ∨ j = 4 ∨ j = 5 by omega) with rfl | rfl | rfl | rfl | rfl | rfl <;> rw [hgl] <;> rfl)
  have hP := hP.set hD (p := 3) rfl hq9 (fun _ _ => rfl)
  have hD := hD.set (e := .inl (cA 2, 6, .inr (.inr (.inr (.inr (fun j => some (gl j 0))))))) (p := 3) (a := q3) rfl
  clear hq9
  have hP : va_P (dC, dI) vwCl (w_br ga gl cA n (br0 (nI w1) (nI h1) (nI n)) ++ wL gl cA n (fun _ => ly0 (nI n))) H := by rw [hg]; rw [hgl] at hP ⊢; exact hP
  have hD : va_D A (w_br ga gl cA n (br0 (nI w1) (nI h1) (nI n)) ++ wL gl cA n (fun _ => ly0 (nI n))) := by rw [hg]; rw [hgl] at hD ⊢; exact hD
  replace hl : lv_has ls 4 [(0, .ref (ga 0))] := by rw [hg]; exact lv_sub hl [1] rfl
  clear hg hgl
  have L107 : ∀ (KX : (Nat → Nat → Int32) → (Nat → Nat → Nat → Int32) → Prop), (∀ (ua : Nat → Nat → Int32) (uL : Nat → Nat → Nat → Int32), KX ua uL → ∀ (H : Heap) (locs : List Loc) (ls : Array Slot), va_P (dC, dI) vwCl (w_br ga gl cA n ua ++ wL gl cA n uL) H → va_D A (w_br ga gl cA n ua ++ wL gl cA n uL) → va_S A s.heap H locs → lv_has ls 4 [(0, .ref (ga 0))] → W p l e (headSpec wX3_init rm_X3_init).room s m args below meth c H locs (0 + 1 + 1 + 1 + 1 + 5 + 1 + 5 + 1 + 5 + 1 + 5 + 1 + 5 + 1 + 5) (0 + n + n + 6 + 7 + 720 + 7 + 720 + 7 + 720 + 7 + 720 + 7 + 720 + 7 + 720) (MQ below (va_Qv (fun (u : (Nat → Nat) × (Nat → Nat → Nat) × (Nat → Nat → Int32) × (Nat → Nat → Nat → Int32)) => u.1 0 = h0 ∧ P u.2.2.1 u.2.2.2) (fun u t => va_P (dC, dI) vwCl (w_br u.1 u.2.1 cA n u.2.2.1 ++ wL u.2.1 cA n u.2.2.2) t.heap ∧ va_K (dC, dI) vwCl (tyA cA) t ∧ va_D A (w_br u.1 u.2.1 cA n u.2.2.1 ++ wL u.2.1 cA n u.2.2.2)) A) args s 39 4700 A) (F0 m 130 ls [])) → ∀ (N : Nat) (ua : Nat → Nat → Int32) (uL : Nat → Nat → Nat → Int32) (x3 : Int32), wp_X3_init_107 n KX N ua uL x3 → ∀ (H : Heap) (locs : List Loc) (ls : Array Slot), va_P (dC, dI) vwCl (w_br ga gl cA n ua ++ wL gl cA n uL) H → va_D A (w_br ga gl cA n ua ++ wL gl cA n uL) → va_S A s.heap H locs → lv_has ls 4 [(0, .ref (ga 0)), (3, .int x3)] → W p l e (headSpec wX3_init rm_X3_init).room s m args below meth c H locs (0 + 1 + 1 + 1 + 1 + 5 + 1 + 5 + 1 + 5 + 1 + 5 + 1 + 5 + 1 + 5) (0 + n + n + 6 + 7 + 720 + 7 + 720 + 7 + 720 + 7 + 720 + 7 + 720 + 7 + 720) (MQ below (va_Qv (fun (u : (Nat → Nat) × (Nat → Nat → Nat) × (Nat → Nat → Int32) × (Nat → Nat → Nat → Int32)) => u.1 0 = h0 ∧ P u.2.2.1 u.2.2.2) (fun u t => va_P (dC, dI) vwCl (w_br u.1 u.2.1 cA n u.2.2.1 ++ wL u.2.1 cA n u.2.2.2) t.heap ∧ va_K (dC, dI) vwCl (tyA cA) t ∧ va_D A (w_br u.1 u.2.1 cA n u.2.2.1 ++ wL u.2.1 cA n u.2.2.2)) A) args s 39 4700 A) (F0 m 107 ls []) := by
    intro KX hx2 N107
    induction N107 with
    | zero =>
      intro ua uL x3 hw
      exact False.elim hw
    | succ N107 hk =>
      intro ua uL x3 hw H locs ls hP hD hS hl
      rw [wp_X3_init_107] at hw
      refine lv_iload_n hx hb dX3_init_107 rfl (lv_at hl 1 rfl) ?_
      refine lv_aload_n hx hb dX3_init_108 rfl (lv_at hl 0 rfl) ?_
      refine va_get (D := (dC, dI)) (ci := 2) (v := .int (ua 0 2)) (C := RX3) (T := TX3) (N := 13) hx hb hts iX3 hown hK hP 0 rfl rfl 2 (by decide) (hts _ (xm m81)) (fun _ h9 => h9) rfl dX3_init_109 ?_
      refine lv_icmp_ge (tgt := 130) hx hb dX3_init_112 (by decide) (fun c5 => ?_) (fun c5 => ?_)
      · replace hw := And.left hw c5
        exact hx2 _ _ hw _ _ _ hP hD hS (lv_sub hl [0] rfl)
      · replace hw := And.right hw c5
        refine lv_aload_n hx hb dX3_init_115 rfl (lv_at hl 0 rfl) ?_
        refine va_get (D := (dC, dI)) (ci := 2) (v := .ref (ga 1)) (C := RX3) (T := TX3) (N := 13) hx hb hts iX3 hown hK hP 0 rfl rfl 3 (by decide) (hts _ (xm m82)) (fun _ h9 => h9) rfl dX3_init_116 ?_
        refine lv_iload_n hx hb dX3_init_119 rfl (lv_at hl 1 rfl) ?_
        refine lv_sipush (v := 255) hx hb dX3_init_120 (by decide) ?_
        obtain ⟨ua3, e_ua3⟩ : ∃ z, z = st ua 1 x3.toNatClampNeg 255 := ⟨_, rfl⟩
        refine va_iast hx hb hK hP hD hS 1 0 rfl rfl (And.left hw) dX3_init_123 (fun H locs hP hD hS => ?_)
        replace hw := And.right hw
        replace hw := hw ua3 e_ua3
        have hP : va_P (dC, dI) vwCl (w_br ga gl cA n ua3 ++ wL gl cA n uL) H := by rw [e_ua3]; exact hP
        have hD : va_D A (w_br ga gl cA n ua3 ++ wL gl cA n uL) := by rw [e_ua3]; exact hD
        obtain ⟨v4, e_v4⟩ : ∃ y : Int32, y = x3 + 1 := ⟨_, rfl⟩
        replace hw := hw v4 e_v4
        refine lv_iinc (v := v4) (lv' := [(3, .int v4), (0, .ref (ga 0))]) hx hb dX3_init_124 hl (k := 1) rfl (by rw [e_v4]; rfl) (by decide) rfl (fun ls hl => ?_)
        refine lv_goto (tgt := 107) hx hb dX3_init_127 (by decide) ?_
        exact hk _ _ _ hw _ _ _ hP hD hS (lv_sub hl [1, 0] rfl)
  generalize br0 (nI w1) (nI h1) (nI n) = ua at hw hP hD
  generalize (fun _ => ly0 (nI n)) = uL at hw hP hD
  refine lv_iconst (v := 0) hx hb dX3_init_105 (by decide) ?_
  refine lv_istore_n (lv' := [(3, .int 0), (0, .ref (ga 0))]) hx hb dX3_init_106 rfl hl (by decide) rfl (fun ls hl => ?_)
  obtain ⟨N107, hw⟩ := hw
  refine L107 _ (fun ua6 uL7 hw H locs ls hP hD hS hl => ?_) N107 _ _ _ hw _ _ _ hP hD hS (lv_sub hl [1, 0] rfl)
  refine lv_aload_n hx hb dX3_init_130 rfl (lv_at hl 0 rfl) ?_
  refine lv_bipush (v := 6) hx hb dX3_init_131 (by decide) ?_
  obtain ⟨ua8, e_ua8⟩ : ∃ z, z = st ua6 0 6 6 := ⟨_, rfl⟩
  refine va_put (D := (dC, dI)) (ci := 2) (v := .int 6) (ty := .int) (C := RX3) (T := TX3) (N := 13) hx hb hts iX3 tyX3 tyX3_ok nmX3 hown hK hP hD hS 0 rfl rfl 9 (by decide) (hts _ (xm m88)) (fun _ h9 => h9) rfl (by decide +kernel) rfl rfl (Nat.le_of_ble_eq_true rfl) dX3_init_133 (fun H locs hP hD hS => ?_)
  replace hw := hw ua8 e_ua8
  have hP : va_P (dC, dI) vwCl (w_br ga gl cA n ua8 ++ wL gl cA n uL7) H := by rw [e_ua8]; exact hP
  have hD : va_D A (w_br ga gl cA n ua8 ++ wL gl cA n uL7) := by rw [e_ua8]; exact hD
  refine lv_aload_n hx hb dX3_init_136 rfl (lv_at hl 0 rfl) ?_
  refine lv_iconst (v := 1) hx hb dX3_init_137 (by decide) ?_
  obtain ⟨ua9, e_ua9⟩ : ∃ z, z = st ua8 0 7 1 := ⟨_, rfl⟩
  refine va_put (D := (dC, dI)) (ci := 2) (v := .int 1) (ty := .int) (C := RX3) (T := TX3) (N := 13) hx hb hts iX3 tyX3 tyX3_ok nmX3 hown hK hP hD hS 0 rfl rfl 10 (by decide) (hts _ (xm m89)) (fun _ h9 => h9) rfl (by decide +kernel) rfl rfl (Nat.le_of_ble_eq_true rfl) dX3_init_138 (fun H locs hP hD hS => ?_)
  replace hw := hw ua9 e_ua9
  have hP : va_P (dC, dI) vwCl (w_br ga gl cA n ua9 ++ wL gl cA n uL7) H := by rw [e_ua9]; exact hP
  have hD : va_D A (w_br ga gl cA n ua9 ++ wL gl cA n uL7) := by rw [e_ua9]; exact hD
  refine lv_aload_n hx hb dX3_init_141 rfl (lv_at hl 0 rfl) ?_
  refine lv_iconst (v := 1) hx hb dX3_init_142 (by decide) ?_
  obtain ⟨ua10, e_ua10⟩ : ∃ z, z = st ua9 0 8 1 := ⟨_, rfl⟩
  refine va_put (D := (dC, dI)) (ci := 2) (v := .int 1) (ty := .int) (C := RX3) (T := TX3) (N := 13) hx hb hts iX3 tyX3 tyX3_ok nmX3 hown hK hP hD hS 0 rfl rfl 11 (by decide) (hts _ (xm m90)) (fun _ h9 => h9) rfl (by decide +kernel) rfl rfl (Nat.le_of_ble_eq_true rfl) dX3_init_143 (fun H locs hP hD hS => ?_)
  replace hw := hw ua10 e_ua10
  have hP : va_P (dC, dI) vwCl (w_br ga gl cA n ua10 ++ wL gl cA n uL7) H := by rw [e_ua10]; exact hP
  have hD : va_D A (w_br ga gl cA n ua10 ++ wL gl cA n uL7) := by rw [e_ua10]; exact hD
  refine W.widen (k := 39) (n := 4700) (Nat.le_of_ble_eq_true rfl) (show 0 + n + n + 6 + 7 + 720 + 7 + 720 + 7 + 720 + 7 + 720 + 7 + 720 + 7 + 720 ≤ 4700 by omega) ?_
  exact W.vret hx hb hr (fun t ht hW => ⟨⟨(ga, gl, ua10, uL7), rfl, ⟨hg0, hw⟩, by rw [ht]; exact hP, va_K.moved hW.alike hK, hD⟩, hS.F ht⟩) hS.2.2 dX3_init_146
