
/-! the law itself -/
def bI (x : Int32) : Int32 := if x = 0 then 0 else 1
abbrev wLaw (ga : Nat → Nat) (gl : Nat → Nat → Nat) (go : Nat) (gm : Nat → Nat) (cA : Nat → ClassId) (n : Nat) (a : Nat → Nat → Int32) (L : Nat → Nat → Nat → Int32) (o : Nat → Int64) (um : Nat → Nat → Int32) : va_W := wG ga gl go cA n a L o ++ w_md gm cA um
def xEA (A : Nat → Prop) (sa : Nat → Nat) (U : State) : Prop := vx_Zq Bundle.tN "UNASSIGNED_STACK" Bundle.steD A U U.heap ∧ vx_Zq Bundle.tN "SUPPRESSED_SENTINEL" Bundle.listD A U U.heap ∧ (∀ (i : Nat) (q : Nat × String), xS[i]? = some q → vk_R RX3 q.1 q.2 (sa i) U) ∧ ∀ w ∈ xDC, va_Nw w U
theorem xEmvA {A : Nat → Prop} {sa : Nat → Nat} {s U : State} {H : Heap} {locs : List Loc} (h : xEA A sa s) (hW : s.WarmedH U.vm) (hS : va_S A s.heap H locs) (hU : U.heap = H) : xE sa U := by
  obtain ⟨h1, h2, h3, h4⟩ := h
  refine ⟨?_, ?_, fun i q hq => vk_R.warm hW (h3 i q hq), fun w hw => xdc_warm (List.mem_filter.mp hw).2 hW (h4 w hw)⟩
  · rw [hU]; exact (vx_Zq.moved hW.alike (h1.kept hS.2.1)).narrow (fun _ h => h.elim)
  · rw [hU]; exact (vx_Zq.moved hW.alike (h2.kept hS.2.1)).narrow (fun _ h => h.elim)
theorem xlcmp {x y : Int64} (h : x = y) : lg_cmp x y = 0 := by
  subst h
  unfold lg_cmp
  rw [if_neg (Int64.lt_irrefl), if_pos rfl]
section XB
variable {p : Program} {l : Launch} {e : Env} {R : Room} {s : State} {m : MethodId} {args : Array Value} {below : List Frame} {meth : Method} {c : Code} {H : Heap} {locs : List Loc} {cells slots : Nat} {Q : State → Prop} {pc : Nat} {ls : Array Slot} {rest : List Value} {cc : ByteArray}
theorem xbool (hx : p.tables.exec = Jvm.exec) (hb : c.code = cc) {x : Int32} (d0 : decode cc pc = .ok (.ifCond .eq 7, 3)) (d3 : decode cc (pc + 3) = .ok (.iconst 1, 1)) (d4 : decode cc (pc + 3 + 1) = .ok (.goto 4, 3)) (d7 : decode cc (pc + 7) = .ok (.iconst 0, 1))
    (k : W p l e R s m args below meth c H locs cells slots Q (F0 m (pc + 8) ls (.int (bI x) :: rest))) : W p l e R s m args below meth c H locs cells slots Q (F0 m pc ls (.int x :: rest)) := by
  refine lv_if_eq (tgt := pc + 7) hx hb d0 (by omega) (fun h => ?_) (fun h => ?_)
  · refine lv_iconst (v := 0) hx hb d7 (by decide) ?_
    rw [show bI x = 0 from if_pos h] at k
    exact k
  · refine lv_iconst (v := 1) hx hb d3 (by decide) ?_
    refine lv_goto (tgt := pc + 8) hx hb d4 (by omega) ?_
    rw [show bI x = 1 from if_neg h] at k
    exact k
end XB
theorem xsw0_15 {x : Int32} (h : ∀ k : Nat, k < 16 → ¬ x = nI k) : x.toInt < 0 ∨ 15 < x.toInt := by
  rcases Int.lt_or_le x.toInt 0 with h0 | h0
  · exact Or.inl h0
  · refine Or.inr ?_
    rcases Int.lt_or_le 15 x.toInt with h1 | h1
    · exact h1
    · exfalso
      refine h x.toInt.toNat (by omega) ?_
      apply Int32.toInt_inj.mp
      rw [nI_toInt (by omega)]
      omega

abbrev wL_cell : List Cond := Cond.code yL_cell cL_cell 2 (some .int) :: gG
def wp_L_cell (L : Nat) (xs : Nat → Int32) (p1 : Int32) (P : Int32 → Prop) : Prop := (Int32.ofNat L ≤ p1 → P 0) ∧ (¬ Int32.ofNat L ≤ p1 → (vp_in p1 L ∧ P (xs p1.toNatClampNeg)))
abbrev rm_L_cell : Room := { frames := 0, cells := 0, slots := 0, locals := 0 }
def xPX (b L : Nat) (xs : Nat → Int32) (As : List Value) : Array Value → State → Prop := va_Pc As (fun U => va_X b L xs U U.heap ∧ b < U.heap.size)
theorem xblX {b L : Nat} {xs : Nat → Int32} {As : List Value} : FrameBlind (xPX b L xs As) := fun a U g mk q => ⟨q.1, va_X.moved (u := U) (U := U.calling g mk a) (Vm.Alike.refl U.vm) q.2.1, q.2.2⟩
set_option maxHeartbeats 4000000 in
set_option maxRecDepth 100000 in
theorem c_L_cell (l : Launch) (b L : Nat) (xs : Nat → Int32) (p1 : Int32) (P : Int32 → Prop) (hw : wp_L_cell L xs p1 P) : Met l yL_cell wL_cell rm_L_cell (xPX b L xs [.ref b, .int p1]) (vp_Si P) 0 0 (fun _ => False) := by
  refine Met.ofW (cc := cL_cell) (maxL := 2) (ret := (some .int)) (by decide) rfl ?_
  intro p e s m args below meth c s₁ B hml hv
  obtain ⟨hargs, hX, hbl⟩ := hv
  have hx := B.exec
  have hb := B.bytes
  have hr := B.returns
  have hlocks := B.notSynchronized
  have hbA : ¬ (fun _ : Nat => False) b := id
  have hS : va_S (fun _ => False) s.heap s.heap [] := va_S.rf
  have hl := lv_entry ([.ref b, .int p1]) (n := 2) (Nat.le_of_ble_eq_true rfl)
  rw [show entryFrame m args 2 = entryFrame m (([.ref b, .int p1] : List Value).toArray) 2 from by rw [hargs], lg_entry_eq]
  generalize (lg_sl ([.ref b, .int p1]) ++ List.replicate (2 - (lg_sl ([.ref b, .int p1])).length) Slot.unset).toArray = ls at hl ⊢
  have hl : lv_has ls 2 [(0, .ref b), (1, .int p1)] := hl
  refine lv_iload_n hx hb dL_cell_0 rfl (lv_at hl 1 rfl) ?_
  refine lv_aload_n hx hb dL_cell_1 rfl (lv_at hl 0 rfl) ?_
  refine va_slen hx hb hX hbl hbA hS dL_cell_2 ?_
  refine lv_icmp_ge (tgt := 12) hx hb dL_cell_3 (by decide) (fun c1 => ?_) (fun c1 => ?_)
  · replace hw := And.left hw c1
    refine lv_iconst (v := 0) hx hb dL_cell_12 (by decide) ?_
    exact W.iret hx hb hr (fun t ht hW => ⟨_, rfl, hw, ht⟩) (fun q h => by cases h) dL_cell_13
  · replace hw := And.right hw c1
    refine lv_aload_n hx hb dL_cell_6 rfl (lv_at hl 0 rfl) ?_
    refine lv_iload_n hx hb dL_cell_7 rfl (lv_at hl 1 rfl) ?_
    refine va_sld hx hb hX hbl hbA hS hw.1 dL_cell_8 ?_
    refine lv_goto (tgt := 13) hx hb dL_cell_9 (by decide) ?_
    exact W.iret hx hb hr (fun t ht hW => ⟨_, rfl, hw.2, ht⟩) (fun q h => by cases h) dL_cell_13

/-- what stays through the law's loop -/
def lCx (p : Program) (l : Launch) (s : State) (m : MethodId) (meth : Method) (c : Code) (dC : Nat → ClassId) (dI : Nat → Nat → Nat) (cA : Nat → ClassId) (sa : Nat → Nat) (b L : Nat) (xs : Nat → Int32) (A : Nat → Prop) : Prop :=
  p.tables.exec = Jvm.exec ∧ c.code = cL_law ∧ c.maxLocals = 7 ∧ s.vm.findClass RL = some m.cls ∧ (∀ w ∈ Cond.initialized RL :: gG, w.before #[Value.ref b] s = true) ∧ va_X b L xs s s.heap ∧ b < s.heap.size ∧ ¬ A b ∧ (∀ q, s.heap.size ≤ q → A q) ∧ va_K (dC, dI) vwCl (tyA cA) s ∧ xEA A sa s ∧ va_Nc "java/lang/IllegalArgumentException" "java/lang/IllegalStateException" s ∧ va_Nc "java/lang/ArrayIndexOutOfBoundsException" "java/lang/IllegalArgumentException" s ∧ va_Nc "java/lang/IllegalArgumentException" "java/lang/ArrayIndexOutOfBoundsException" s ∧ l.stackTraces = false

