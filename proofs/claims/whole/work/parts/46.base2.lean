/-! making objects -/
abbrev wL (gl : Nat → Nat → Nat) (cA : Nat → ClassId) (n : Nat) (L : Nat → Nat → Nat → Int32) : va_W := w_ly (gl 0) cA n (L 0) ++ (w_ly (gl 1) cA n (L 1) ++ (w_ly (gl 2) cA n (L 2) ++ (w_ly (gl 3) cA n (L 3) ++ (w_ly (gl 4) cA n (L 4) ++ w_ly (gl 5) cA n (L 5)))))
def ly0 (v : Int32) : Nat → Nat → Int32 := fun k j => if k = 0 then (if j = 0 then v else 0) else 0
def br0 (w h v : Int32) : Nat → Nat → Int32 := fun k j => if k = 0 then (if j = 0 then w else if j = 1 then h else if j = 2 then v else 0) else 0
def md0 : Nat → Nat → Int32 := fun k j => if k = 0 then (if j = 3 then 6 else if j = 4 then 1 else if j = 5 then 1 else 0) else 0
theorem gcI {R : Room} {s : State} {args : Array Value} {own : String} {index maxL mc ms : Nat} {y : MethodName} {bytes : ByteArray} {rm : Room} {a : Cond} (n : Nat) (ht : ∀ w ∈ a :: gG, w.before args s = true) (hc : Cond.code y bytes maxL none ∈ gG) (hl : Cond.methodLink own index y ∈ gG) (hs : Cond.instanceMethod y ∈ gG) (hi : Cond.initialized y.cls ∈ gG) (hrc : rm.cells = mc) (hrs : rm.slots = ms) (hy1 : y.name = "<init>")
    (hd : y.cls ≠ "java/lang/invoke/MethodHandle" ∧ y.cls ≠ "java/lang/invoke/VarHandle" ∧ (parseMethodDescriptor y.desc).map (fun d => d.parameters.length) = some n) (hR : rm.frames + 1 ≤ R.frames ∧ 8 + (maxL + 11) + rm.locals ≤ R.locals) :
    CallB R s args own index y bytes maxL none (Cond.code y bytes maxL none :: gG) rm mc ms n ∧ y.name = "<init>" ∧ (Cond.instanceMethod y).before args s = true :=
  ⟨callB_of n ht (gG_in hc) rfl hrc hrs (ht _ (xm hi)) (ht _ (xm hl)) hd hR, hy1, ht _ (xm hs)⟩
section XN
variable {p : Program} {l : Launch} {e : Env} {R : Room} {s : State} {m : MethodId} {args : Array Value} {below : List Frame} {meth : Method} {c : Code} {H : Heap} {locs : List Loc} {cells slots : Nat} {Q : State → Prop} {pc : Nat} {ls : Array Slot} {rest : List Value} {cc : ByteArray} {D : va_G} {A : Nat → Prop} {ws : va_W} {H0 : Heap} {cA : Nat → ClassId}
theorem xK_int {c' : ClassId} (h : va_K D vwCl (tyA cA ++ [(c', .int)]) s) : c' = cA 0 := Option.some.inj ((h.2 4 _ rfl).2.symm.trans (h.2 0 _ rfl).2)
theorem xK_bool {c' : ClassId} (h : va_K D vwCl (tyA cA ++ [(c', .boolean)]) s) : c' = cA 1 := Option.some.inj ((h.2 4 _ rfl).2.symm.trans (h.2 1 _ rfl).2)
theorem xK_long {c' : ClassId} (h : va_K D vwCl (tyA cA ++ [(c', .long)]) s) : c' = cA 3 := Option.some.inj ((h.2 4 _ rfl).2.symm.trans (h.2 3 _ rfl).2)
theorem xK_ly {c' : ClassId} (h : va_K D vwCl (tyA cA ++ [(c', .object "BlendRows$Layer")]) s) : c' = cA 2 := by
  obtain ⟨-, -, -, -, -, e1⟩ := (h.2 4 _ rfl).2
  obtain ⟨-, -, -, -, -, e2⟩ := (h.2 2 _ rfl).2
  exact Option.some.inj (e1.symm.trans e2)
theorem xnewI (hexec : p.tables.exec = Jvm.exec) (hb : c.code = cc) (harr : (Cond.arrayClass .int).before args s = true) (hK : va_K D vwCl (tyA cA) s) (hP : va_P D vwCl ws H) (hD : va_D A ws) (hS : va_S A H0 H locs) (hA : ∀ q, H0.size ≤ q → A q)
    {n : Int32} {N' : Nat} (hn : ¬ n < 0) (hN : n.toNatClampNeg = N') (hbytes : N' ≤ 100000) (hcells : cells + 1 ≤ R.cells) (hslots : slots + N' ≤ R.slots) (hdg : decode cc pc = .ok (.newarray .int, 2))
    (kk : ∀ (q : Nat) (H1 : Heap), va_P D vwCl (ws ++ [(q, .inl (cA 0, N', .inl (fun _ => 0)))]) H1 → va_D A (ws ++ [(q, .inl (cA 0, N', .inl (fun _ => 0)))]) → va_S A H0 H1 locs → W p l e R s m args below meth c H1 locs (cells + 1) (slots + N') Q (F0 m (pc + 2) ls (.ref q :: rest))) : W p l e R s m args below meth c H locs cells slots Q (F0 m pc ls (.int n :: rest)) := by
  refine va_newa (atype := .int) (ty := .int) hexec hb harr rfl hK hP hD hS hA (a0 := (N', .inl (fun _ => 0))) (fun _ => rfl) hn hN (by show N' * 4 ≤ _; omega) hcells hslots hdg (fun q c' H1 hK1 hP1 hD1 hS1 => ?_)
  have := xK_int hK1
  subst this
  exact kk q H1 hP1 hD1 hS1
theorem xnewZ (hexec : p.tables.exec = Jvm.exec) (hb : c.code = cc) (harr : (Cond.arrayClass .boolean).before args s = true) (hK : va_K D vwCl (tyA cA) s) (hP : va_P D vwCl ws H) (hD : va_D A ws) (hS : va_S A H0 H locs) (hA : ∀ q, H0.size ≤ q → A q)
    {n : Int32} {N' : Nat} (hn : ¬ n < 0) (hN : n.toNatClampNeg = N') (hbytes : N' ≤ 100000) (hcells : cells + 1 ≤ R.cells) (hslots : slots + N' ≤ R.slots) (hdg : decode cc pc = .ok (.newarray .boolean, 2))
    (kk : ∀ (q : Nat) (H1 : Heap), va_P D vwCl (ws ++ [(q, .inl (cA 1, N', .inl (fun _ => 0)))]) H1 → va_D A (ws ++ [(q, .inl (cA 1, N', .inl (fun _ => 0)))]) → va_S A H0 H1 locs → W p l e R s m args below meth c H1 locs (cells + 1) (slots + N') Q (F0 m (pc + 2) ls (.ref q :: rest))) : W p l e R s m args below meth c H locs cells slots Q (F0 m pc ls (.int n :: rest)) := by
  refine va_newa (atype := .boolean) (ty := .boolean) hexec hb harr rfl hK hP hD hS hA (a0 := (N', .inl (fun _ => 0))) (fun _ => rfl) hn hN (by show N' * 1 ≤ _; omega) hcells hslots hdg (fun q c' H1 hK1 hP1 hD1 hS1 => ?_)
  have := xK_bool hK1
  subst this
  exact kk q H1 hP1 hD1 hS1
theorem xnewJ (hexec : p.tables.exec = Jvm.exec) (hb : c.code = cc) (harr : (Cond.arrayClass .long).before args s = true) (hK : va_K D vwCl (tyA cA) s) (hP : va_P D vwCl ws H) (hD : va_D A ws) (hS : va_S A H0 H locs) (hA : ∀ q, H0.size ≤ q → A q)
    {n : Int32} {N' : Nat} (hn : ¬ n < 0) (hN : n.toNatClampNeg = N') (hbytes : N' ≤ 100000) (hcells : cells + 1 ≤ R.cells) (hslots : slots + N' ≤ R.slots) (hdg : decode cc pc = .ok (.newarray .long, 2))
    (kk : ∀ (q : Nat) (H1 : Heap), va_P D vwCl (ws ++ [(q, .inl (cA 3, N', .inr (.inl (fun _ => 0))))]) H1 → va_D A (ws ++ [(q, .inl (cA 3, N', .inr (.inl (fun _ => 0))))]) → va_S A H0 H1 locs → W p l e R s m args below meth c H1 locs (cells + 1) (slots + N') Q (F0 m (pc + 2) ls (.ref q :: rest))) : W p l e R s m args below meth c H locs cells slots Q (F0 m pc ls (.int n :: rest)) := by
  refine va_newa (atype := .long) (ty := .long) hexec hb harr rfl hK hP hD hS hA (a0 := (N', .inr (.inl (fun _ => 0)))) (fun _ => rfl) hn hN (by show N' * 8 ≤ _; omega) hcells hslots hdg (fun q c' H1 hK1 hP1 hD1 hS1 => ?_)
  have := xK_long hK1
  subst this
  exact kk q H1 hP1 hD1 hS1
theorem xnewL (hexec : p.tables.exec = Jvm.exec) (hb : c.code = cc) {own : String} {index : Nat} (hown : s.vm.findClass own = some m.cls) (hclink : (Cond.classLink own index "BlendRows$Layer").before args s = true) (hover : va_AO "BlendRows$Layer" s) (hK : va_K D vwCl (tyA cA) s) (hP : va_P D vwCl ws H) (hD : va_D A ws) (hS : va_S A H0 H locs) (hA : ∀ q, H0.size ≤ q → A q)
    {n : Int32} {N' : Nat} (hn : ¬ n < 0) (hN : n.toNatClampNeg = N') (hbytes : N' * 4 ≤ 536870912) (hcells : cells + 1 ≤ R.cells) (hslots : slots + N' ≤ R.slots) (hdg : decode cc pc = .ok (.anewarray index, 3))
    (kk : ∀ (q : Nat) (H1 : Heap), va_P D vwCl (ws ++ [(q, .inl (cA 2, N', .inr (.inr (.inr (.inr (fun _ => none))))))]) H1 → va_D A (ws ++ [(q, .inl (cA 2, N', .inr (.inr (.inr (.inr (fun _ => none))))))]) → va_S A H0 H1 locs → W p l e R s m args below meth c H1 locs (cells + 1) (slots + N') Q (F0 m (pc + 3) ls (.ref q :: rest))) : W p l e R s m args below meth c H locs cells slots Q (F0 m pc ls (.int n :: rest)) := by
  refine va_newq hexec hb hown hclink hover hK hP hD hS hA hn hN hbytes hcells hslots hdg (fun q c' H1 hK1 hP1 hD1 hS1 => ?_)
  have := xK_ly hK1
  subst this
  exact kk q H1 hP1 hD1 hS1
end XN
theorem xq6 {D : va_G} {cl : List vw_C} {H : Heap} {a : Nat} {c : ClassId} {F F' : Nat → Option Nat} (h : va_at D cl (a, .inl (c, 6, .inr (.inr (.inr (.inr F))))) H) (he : ∀ j, j < 6 → F j = F' j) : va_at D cl (a, .inl (c, 6, .inr (.inr (.inr (.inr F'))))) H := by
  have h1 : H[a]? = some (vp_cell c (6, .inr (.inr (.inr (.inr F))))) := h
  show H[a]? = some (vp_cell c (6, .inr (.inr (.inr (.inr F')))))
  rw [h1, vp_cell_q, vp_cell_q]
  have : (fun j : Fin 6 => va_rf (F j.val)) = (fun j : Fin 6 => va_rf (F' j.val)) := funext fun j => by rw [he j.val j.isLt]
  unfold arrV
  rw [this]
def xP2o (dC : Nat → ClassId) (dI : Nat → Nat → Nat) (cA : Nat → ClassId) (W : va_W) (sz : Nat) (As : List Value) : Array Value → State → Prop := va_Pc As (fun U => U.heap.size = sz ∧ va_P (dC, dI) vwCl W U.heap ∧ va_K (dC, dI) vwCl (tyA cA) U ∧ va_D (fun _ => True) W ∧ va_AO "BlendRows$Layer" U)
theorem xbl2o {dC : Nat → ClassId} {dI : Nat → Nat → Nat} {cA : Nat → ClassId} {W : va_W} {sz : Nat} {As : List Value} : FrameBlind (xP2o dC dI cA W sz As) := fun a U g mk q => ⟨q.1, q.2.1, q.2.2.1, va_K.moved (u := U) (U := U.calling g mk a) (Vm.Alike.refl U.vm) q.2.2.2.1, q.2.2.2.2.1, va_AO.moved (u := U) (U := U.calling g mk a) (Vm.Alike.refl U.vm) q.2.2.2.2.2⟩
