section VXC
variable {p : Program} {l : Launch} {e : Env} {R : Room} {s : State} {m : MethodId} {args : Array Value} {below : List Frame} {meth : Method} {c : Code} {H : Heap} {locs : List Loc} {cells slots : Nat} {Q : State → Prop}
variable {mc ms : Nat} {free : Addr → Prop} {A0 A1 : Nat → Prop} {H0 : Heap} {a : Array Value} {pc : Nat} {ls : Array Slot} {st0 rest : List Value}
/-- caught by the row x of this method's table; the rows ahead don't take it -/
theorem vx_catch {own name : String} {E : String} {ce : Cell} {q : Addr} (hown : s.vm.findClass own = some m.cls) (pre : List ExceptionTableEntry) (x : ExceptionTableEntry) (suf : List ExceptionTableEntry) (hsplit : c.exceptionTable.toList = pre ++ x :: suf)
    (hpass : ∀ z ∈ pre, covers z pc = false ∨ (z.catchType ≠ 0 ∧ ∃ nm : String, (Cond.classLink own z.catchType nm).before args s = true ∧ va_Nc E nm s)) (hx : covers x pc = true) (h0 : x.catchType ≠ 0)
    (hlink : (Cond.classLink own x.catchType name).before args s = true) (hcast : (Cond.castable E name).before args s = true) (hcell : H[q]? = some ce) (hv : ce.vm = .none) (hcl : s.vm.findClass E = some ce.cls)
    (kk : W p l e R s m args below meth c H locs cells slots Q (F0 m x.handlerPc ls [.ref q])) : vx_W p l e R s m args below meth c H locs cells slots Q (F0 m pc ls rest) q := by
  intro T hT X
  have hpl : e.platform.magicAccessors = ({} : Platform).magicAccessors := by rw [X.admits.platform]
  obtain ⟨c3, c4, hc3, hc4, hasg⟩ := Cond.castable_spec hcast
  cases Option.some.inj (hc3.symm.trans hcl)
  obtain ⟨c5, hc5, hcl5⟩ := Cond.classLink_spec hown hlink e.platform hpl
  cases Option.some.inj (hc4.symm.trans hc5)
  obtain ⟨vm', X', st⟩ := Stand.thenCaughtThrough X q (g := F0 m pc ls rest) rfl (Steps.refl _) (by rw [hT]; exact hcell) (by rw [hv]; rfl) (by obtain ⟨k9, h9, -⟩ := Vm.findClass_spec hcl; exact ⟨k9, h9⟩) pre x suf hsplit
    (fun z hz => by
      rcases hpass z hz with h | ⟨hz0, nm, hl1, hn1⟩
      · exact Or.inl h
      · obtain ⟨c6, hc6, hcl6⟩ := Cond.classLink_spec hown hl1 e.platform hpl
        obtain ⟨a8, b8, h1, h2, h3⟩ := hn1
        cases Option.some.inj (h1.symm.trans hcl)
        cases Option.some.inj (h2.symm.trans hc6)
        exact Or.inr ⟨hz0, _, hcl6, h3⟩) hx (Or.inr ⟨h0, c4, hcl5, hasg⟩)
  obtain ⟨t, a1, b1⟩ := kk (T.setVm vm') hT X'
  exact ⟨t, st.trans a1, b1⟩
end VXC
theorem xofWH {l : Launch} {y : MethodName} {ws ws' : List Cond} {rm : Room} {Pc : Array Value → State → Prop} {Qc : Array Value → State → Outcome → State → Prop} {mc ms : Nat} {free : Addr → Prop} {cc : ByteArray} {maxL : Nat} {ret : Option FieldType} {hh : List (Nat × Nat × Nat × Nat)}
    (hy : plainName y.cls = true) (hw : ws = Cond.codeWith y cc maxL ret hh :: ws')
    (body : ∀ p e s m args below meth c s₁, BodyLoose p l y (headSpec ws rm) cc maxL ret e s m args below meth c s₁ → c.maxLocals = maxL → Pc args s →
      W p l e (headSpec ws rm).room s m args below meth c s.heap [] 0 0 (MQ below Qc args s mc ms free) (entryFrame m args maxL)) : Met l y ws rm Pc Qc mc ms free := by
  refine MetFree.of_bodyS (code := cc) (maxLocals := maxL) (ret := ret) hy ?_ ?_
  · intro args s m h hn
    obtain ⟨m9, meth, c, hn9, h1, h2, h3, h4, -, h5, h6, -⟩ := Cond.codeWith_spec (atoms_spec (ws := ws) h _ (by rw [hw]; exact List.mem_cons_self))
    cases hn.symm.trans hn9
    exact ⟨meth, c, h1, h2, h3, h4, h5, h6⟩
  · intro p e s m args below meth c s₁ B hml hP _
    have hh0 : s₁.heap = s.heap := by rw [B.state]; rfl
    obtain ⟨t, a1, o, b1, b2, b3⟩ := body p e s m args below meth c s₁ B hml hP s₁ hh0 (Stand.of_body B)
    exact ⟨t, o, a1, b1, b2, ⟨b3.1, b3.2⟩⟩
abbrev w_o (go : Nat) (cA : Nat → ClassId) (o : Nat → Int64) : va_W := [(go, .inl (cA 3, 1, .inr (.inl o)))]
abbrev wG (ga : Nat → Nat) (gl : Nat → Nat → Nat) (go : Nat) (cA : Nat → ClassId) (n : Nat) (a : Nat → Nat → Int32) (L : Nat → Nat → Nat → Int32) (o : Nat → Int64) : va_W := w_br ga gl cA n a ++ wL gl cA n L ++ w_o go cA o
def xE2 (sa : Nat → Nat) (U : State) : Prop := xE sa U ∧ va_Nc "java/lang/IllegalArgumentException" "java/lang/IllegalStateException" U ∧ va_Nc "java/lang/ArrayIndexOutOfBoundsException" "java/lang/IllegalArgumentException" U ∧ va_Nc "java/lang/IllegalArgumentException" "java/lang/ArrayIndexOutOfBoundsException" U
def xP2w (dC : Nat → ClassId) (dI : Nat → Nat → Nat) (cA : Nat → ClassId) (sa : Nat → Nat) (W : va_W) (sz : Nat) (As : List Value) : Array Value → State → Prop := va_Pc As (fun U => U.heap.size = sz ∧ va_P (dC, dI) vwCl W U.heap ∧ va_K (dC, dI) vwCl (tyA cA) U ∧ va_D (fun _ => True) W ∧ xE2 sa U)
theorem xbl2w {dC : Nat → ClassId} {dI : Nat → Nat → Nat} {cA : Nat → ClassId} {sa : Nat → Nat} {W : va_W} {sz : Nat} {As : List Value} : FrameBlind (xP2w dC dI cA sa W sz As) := fun a U g mk q => ⟨q.1, q.2.1, q.2.2.1, va_K.moved (u := U) (U := U.calling g mk a) (Vm.Alike.refl U.vm) q.2.2.2.1, q.2.2.2.2.1, xEbl q.2.2.2.2.2.1, va_Nc.moved (u := U) (U := U.calling g mk a) (Vm.Alike.refl U.vm) q.2.2.2.2.2.2.1, va_Nc.moved (u := U) (U := U.calling g mk a) (Vm.Alike.refl U.vm) q.2.2.2.2.2.2.2.1, va_Nc.moved (u := U) (U := U.calling g mk a) (Vm.Alike.refl U.vm) q.2.2.2.2.2.2.2.2⟩
theorem gcSW {R : Room} {s : State} {args : Array Value} {own : String} {index maxL mc ms : Nat} {y : MethodName} {bytes : ByteArray} {ret : Option FieldType} {hh : List (Nat × Nat × Nat × Nat)} {rm : Room} {Ts : List Cond} (n : Nat) (ht : ∀ w ∈ Ts, w.before args s = true) (hT : ∀ w ∈ gG, w ∈ Ts) (hc : Cond.codeWith y bytes maxL ret hh ∈ gG) (hl : Cond.methodLink own index y ∈ gG) (hs : Cond.static y ∈ gG) (hi : Cond.initialized y.cls ∈ gG) (hrc : rm.cells = mc) (hrs : rm.slots = ms)
    (hd : y.cls ≠ "java/lang/invoke/MethodHandle" ∧ y.cls ≠ "java/lang/invoke/VarHandle" ∧ (parseMethodDescriptor y.desc).map (fun d => d.parameters.length) = some n) (hR : rm.frames + 1 ≤ R.frames ∧ 8 + (maxL + 11) + rm.locals ≤ R.locals) :
    vx_CSW R s args own index y bytes maxL ret hh (Cond.codeWith y bytes maxL ret hh :: gG) rm mc ms n := by
  refine vx_cwSW n ht ?_ rfl hrc hrs hd hR
  intro w hw
  unfold va_wsS at hw
  rcases List.mem_append.mp hw with h | h
  · rcases List.mem_cons.mp h with h | h
    · subst h; exact ⟨hT _ hl, gG_good hl⟩
    · rcases List.mem_cons.mp h with h | h
      · subst h; exact ⟨hT _ hs, gG_good hs⟩
      · rcases List.mem_cons.mp h with h | h
        · subst h; exact ⟨hT _ hi, gG_good hi⟩
        · cases h
  · rcases List.mem_cons.mp h with h | h
    · subst h; exact ⟨hT _ hc, gG_good hc⟩
    · exact ⟨hT _ h, gG_good h⟩
theorem xcast {sa : Nat → Nat} {s : State} {args : Array Value} {X : String} (hE : xE sa s) (h : Cond.castable X X ∈ xDC) : (Cond.castable X X).before args s = true := va_Nw.use (xdc_tab (List.mem_filter.mp h).2) (hE.2.2.2 _ h)
theorem xc_IllegalArgumentException : Cond.castable "java/lang/IllegalArgumentException" "java/lang/IllegalArgumentException" ∈ xDC := by decide +kernel
theorem xc_IllegalStateException : Cond.castable "java/lang/IllegalStateException" "java/lang/IllegalStateException" ∈ xDC := by decide +kernel
theorem xc_UnsupportedOperationException : Cond.castable "java/lang/UnsupportedOperationException" "java/lang/UnsupportedOperationException" ∈ xDC := by decide +kernel
theorem xc_ArrayIndexOutOfBoundsException : Cond.castable "java/lang/ArrayIndexOutOfBoundsException" "java/lang/ArrayIndexOutOfBoundsException" ∈ xDC := by decide +kernel
theorem full1_P {D : va_G} {H : Heap} {ga : Nat → Nat} {gl : Nat → Nat → Nat} {go : Nat} {cA : Nat → ClassId} {n : Nat} {a : Nat → Nat → Int32} {L : Nat → Nat → Nat → Int32} {o : Nat → Int64} {k : Nat} (hk : k < 6) (h : va_P D vwCl (wG ga gl go cA n a L o) H) : va_P D vwCl (w_br ga gl cA n a ++ w_ly (gl k) cA n (L k)) H := by
  rcases (show k = 0 ∨ k = 1 ∨ k = 2 ∨ k = 3 ∨ k = 4 ∨ k = 5 by omega) with rfl | rfl | rfl | rfl | rfl | rfl
  · exact h.sub [0, 1, 2, 3, 4, 5, 6, 7, 8, 9] rfl
  · exact h.sub [0, 1, 2, 3, 10, 11, 12, 13, 14, 15] rfl
  · exact h.sub [0, 1, 2, 3, 16, 17, 18, 19, 20, 21] rfl
  · exact h.sub [0, 1, 2, 3, 22, 23, 24, 25, 26, 27] rfl
  · exact h.sub [0, 1, 2, 3, 28, 29, 30, 31, 32, 33] rfl
  · exact h.sub [0, 1, 2, 3, 34, 35, 36, 37, 38, 39] rfl
theorem full1_D {D : va_G} {H : Heap} {ga : Nat → Nat} {gl : Nat → Nat → Nat} {go : Nat} {cA : Nat → ClassId} {n : Nat} {a : Nat → Nat → Int32} {L : Nat → Nat → Nat → Int32} {o : Nat → Int64} {A : Nat → Prop} {k : Nat} (hk : k < 6) (h : va_D A (wG ga gl go cA n a L o)) : va_D A (w_br ga gl cA n a ++ w_ly (gl k) cA n (L k)) := by
  rcases (show k = 0 ∨ k = 1 ∨ k = 2 ∨ k = 3 ∨ k = 4 ∨ k = 5 by omega) with rfl | rfl | rfl | rfl | rfl | rfl
  · exact h.sub [0, 1, 2, 3, 4, 5, 6, 7, 8, 9] (by decide) rfl
  · exact h.sub [0, 1, 2, 3, 10, 11, 12, 13, 14, 15] (by decide) rfl
  · exact h.sub [0, 1, 2, 3, 16, 17, 18, 19, 20, 21] (by decide) rfl
  · exact h.sub [0, 1, 2, 3, 22, 23, 24, 25, 26, 27] (by decide) rfl
  · exact h.sub [0, 1, 2, 3, 28, 29, 30, 31, 32, 33] (by decide) rfl
  · exact h.sub [0, 1, 2, 3, 34, 35, 36, 37, 38, 39] (by decide) rfl
theorem full1_F {D : va_G} {H : Heap} {ga : Nat → Nat} {gl : Nat → Nat → Nat} {go : Nat} {cA : Nat → ClassId} {n : Nat} {a : Nat → Nat → Int32} {L : Nat → Nat → Nat → Int32} {o : Nat → Int64} {A0 : Nat → Prop} {H0 : Heap} {locs : List Loc} {k : Nat} (hk : k < 6) (hD : va_D A0 (wG ga gl go cA n a L o)) (hS : va_S A0 H0 H locs) (hA : ∀ q, H0.size ≤ q → A0 q) : ∀ q, va_A (w_br ga gl cA n a ++ w_ly (gl k) cA n (L k)) H.size q → A0 q := by
  rcases (show k = 0 ∨ k = 1 ∨ k = 2 ∨ k = 3 ∨ k = 4 ∨ k = 5 by omega) with rfl | rfl | rfl | rfl | rfl | rfl
  · exact va_free hD hS hA [0, 1, 2, 3, 4, 5, 6, 7, 8, 9] rfl
  · exact va_free hD hS hA [0, 1, 2, 3, 10, 11, 12, 13, 14, 15] rfl
  · exact va_free hD hS hA [0, 1, 2, 3, 16, 17, 18, 19, 20, 21] rfl
  · exact va_free hD hS hA [0, 1, 2, 3, 22, 23, 24, 25, 26, 27] rfl
  · exact va_free hD hS hA [0, 1, 2, 3, 28, 29, 30, 31, 32, 33] rfl
  · exact va_free hD hS hA [0, 1, 2, 3, 34, 35, 36, 37, 38, 39] rfl
set_option maxHeartbeats 4000000 in
set_option maxRecDepth 100000 in
theorem full1_J {D : va_G} {H : Heap} {ga : Nat → Nat} {gl : Nat → Nat → Nat} {go : Nat} {cA : Nat → ClassId} {n : Nat} {a : Nat → Nat → Int32} {L : Nat → Nat → Nat → Int32} {o : Nat → Int64} {A0 : Nat → Prop} {H1 : Heap} {a1 b1 : Nat → Nat → Int32} {k : Nat} (hk : k < 6) (hP : va_P D vwCl (wG ga gl go cA n a L o) H) (hD : va_D A0 (wG ga gl go cA n a L o)) (hk1 : ∀ q : Nat, q < H.size → ¬ va_A (w_br ga gl cA n a ++ w_ly (gl k) cA n (L k)) H.size q → H1[q]? = H[q]?) (hF : ∀ q, va_A (w_br ga gl cA n a ++ w_ly (gl k) cA n (L k)) H.size q → A0 q) (hP1 : va_P D vwCl (w_br ga gl cA n a1 ++ w_ly (gl k) cA n b1) H1) (hD1 : va_D (va_A (w_br ga gl cA n a ++ w_ly (gl k) cA n (L k)) H.size) (w_br ga gl cA n a1 ++ w_ly (gl k) cA n b1)) : va_P D vwCl (wG ga gl go cA n a1 (va_up L k b1) o) H1 ∧ va_D A0 (wG ga gl go cA n a1 (va_up L k b1) o) := by
  rcases (show k = 0 ∨ k = 1 ∨ k = 2 ∨ k = 3 ∨ k = 4 ∨ k = 5 by omega) with rfl | rfl | rfl | rfl | rfl | rfl
  · have hJ := va_join (wr := w_ly (gl 1) cA n (L 1) ++ w_ly (gl 2) cA n (L 2) ++ w_ly (gl 3) cA n (L 3) ++ w_ly (gl 4) cA n (L 4) ++ w_ly (gl 5) cA n (L 5) ++ w_o go cA o) (w1 := (w_br ga gl cA n a1 ++ w_ly (gl 0) cA n b1)) hP hD [0, 1, 2, 3, 4, 5, 6, 7, 8, 9] [10, 11, 12, 13, 14, 15, 16, 17, 18, 19, 20, 21, 22, 23, 24, 25, 26, 27, 28, 29, 30, 31, 32, 33, 34, 35, 36, 37, 38, 39, 40] rfl rfl (by decide) (by decide) hk1 hF hP1 hD1
    exact ⟨hJ.1.sub [31, 32, 33, 34, 35, 36, 37, 38, 39, 40, 0, 1, 2, 3, 4, 5, 6, 7, 8, 9, 10, 11, 12, 13, 14, 15, 16, 17, 18, 19, 20, 21, 22, 23, 24, 25, 26, 27, 28, 29, 30] rfl, hJ.2.sub [31, 32, 33, 34, 35, 36, 37, 38, 39, 40, 0, 1, 2, 3, 4, 5, 6, 7, 8, 9, 10, 11, 12, 13, 14, 15, 16, 17, 18, 19, 20, 21, 22, 23, 24, 25, 26, 27, 28, 29, 30] (by decide) rfl⟩
  · have hJ := va_join (wr := w_ly (gl 0) cA n (L 0) ++ w_ly (gl 2) cA n (L 2) ++ w_ly (gl 3) cA n (L 3) ++ w_ly (gl 4) cA n (L 4) ++ w_ly (gl 5) cA n (L 5) ++ w_o go cA o) (w1 := (w_br ga gl cA n a1 ++ w_ly (gl 1) cA n b1)) hP hD [0, 1, 2, 3, 10, 11, 12, 13, 14, 15] [4, 5, 6, 7, 8, 9, 16, 17, 18, 19, 20, 21, 22, 23, 24, 25, 26, 27, 28, 29, 30, 31, 32, 33, 34, 35, 36, 37, 38, 39, 40] rfl rfl (by decide) (by decide) hk1 hF hP1 hD1
    exact ⟨hJ.1.sub [31, 32, 33, 34, 0, 1, 2, 3, 4, 5, 35, 36, 37, 38, 39, 40, 6, 7, 8, 9, 10, 11, 12, 13, 14, 15, 16, 17, 18, 19, 20, 21, 22, 23, 24, 25, 26, 27, 28, 29, 30] rfl, hJ.2.sub [31, 32, 33, 34, 0, 1, 2, 3, 4, 5, 35, 36, 37, 38, 39, 40, 6, 7, 8, 9, 10, 11, 12, 13, 14, 15, 16, 17, 18, 19, 20, 21, 22, 23, 24, 25, 26, 27, 28, 29, 30] (by decide) rfl⟩
  · have hJ := va_join (wr := w_ly (gl 0) cA n (L 0) ++ w_ly (gl 1) cA n (L 1) ++ w_ly (gl 3) cA n (L 3) ++ w_ly (gl 4) cA n (L 4) ++ w_ly (gl 5) cA n (L 5) ++ w_o go cA o) (w1 := (w_br ga gl cA n a1 ++ w_ly (gl 2) cA n b1)) hP hD [0, 1, 2, 3, 16, 17, 18, 19, 20, 21] [4, 5, 6, 7, 8, 9, 10, 11, 12, 13, 14, 15, 22, 23, 24, 25, 26, 27, 28, 29, 30, 31, 32, 33, 34, 35, 36, 37, 38, 39, 40] rfl rfl (by decide) (by decide) hk1 hF hP1 hD1
    exact ⟨hJ.1.sub [31, 32, 33, 34, 0, 1, 2, 3, 4, 5, 6, 7, 8, 9, 10, 11, 35, 36, 37, 38, 39, 40, 12, 13, 14, 15, 16, 17, 18, 19, 20, 21, 22, 23, 24, 25, 26, 27, 28, 29, 30] rfl, hJ.2.sub [31, 32, 33, 34, 0, 1, 2, 3, 4, 5, 6, 7, 8, 9, 10, 11, 35, 36, 37, 38, 39, 40, 12, 13, 14, 15, 16, 17, 18, 19, 20, 21, 22, 23, 24, 25, 26, 27, 28, 29, 30] (by decide) rfl⟩
  · have hJ := va_join (wr := w_ly (gl 0) cA n (L 0) ++ w_ly (gl 1) cA n (L 1) ++ w_ly (gl 2) cA n (L 2) ++ w_ly (gl 4) cA n (L 4) ++ w_ly (gl 5) cA n (L 5) ++ w_o go cA o) (w1 := (w_br ga gl cA n a1 ++ w_ly (gl 3) cA n b1)) hP hD [0, 1, 2, 3, 22, 23, 24, 25, 26, 27] [4, 5, 6, 7, 8, 9, 10, 11, 12, 13, 14, 15, 16, 17, 18, 19, 20, 21, 28, 29, 30, 31, 32, 33, 34, 35, 36, 37, 38, 39, 40] rfl rfl (by decide) (by decide) hk1 hF hP1 hD1
    exact ⟨hJ.1.sub [31, 32, 33, 34, 0, 1, 2, 3, 4, 5, 6, 7, 8, 9, 10, 11, 12, 13, 14, 15, 16, 17, 35, 36, 37, 38, 39, 40, 18, 19, 20, 21, 22, 23, 24, 25, 26, 27, 28, 29, 30] rfl, hJ.2.sub [31, 32, 33, 34, 0, 1, 2, 3, 4, 5, 6, 7, 8, 9, 10, 11, 12, 13, 14, 15, 16, 17, 35, 36, 37, 38, 39, 40, 18, 19, 20, 21, 22, 23, 24, 25, 26, 27, 28, 29, 30] (by decide) rfl⟩
  · have hJ := va_join (wr := w_ly (gl 0) cA n (L 0) ++ w_ly (gl 1) cA n (L 1) ++ w_ly (gl 2) cA n (L 2) ++ w_ly (gl 3) cA n (L 3) ++ w_ly (gl 5) cA n (L 5) ++ w_o go cA o) (w1 := (w_br ga gl cA n a1 ++ w_ly (gl 4) cA n b1)) hP hD [0, 1, 2, 3, 28, 29, 30, 31, 32, 33] [4, 5, 6, 7, 8, 9, 10, 11, 12, 13, 14, 15, 16, 17, 18, 19, 20, 21, 22, 23, 24, 25, 26, 27, 34, 35, 36, 37, 38, 39, 40] rfl rfl (by decide) (by decide) hk1 hF hP1 hD1
    exact ⟨hJ.1.sub [31, 32, 33, 34, 0, 1, 2, 3, 4, 5, 6, 7, 8, 9, 10, 11, 12, 13, 14, 15, 16, 17, 18, 19, 20, 21, 22, 23, 35, 36, 37, 38, 39, 40, 24, 25, 26, 27, 28, 29, 30] rfl, hJ.2.sub [31, 32, 33, 34, 0, 1, 2, 3, 4, 5, 6, 7, 8, 9, 10, 11, 12, 13, 14, 15, 16, 17, 18, 19, 20, 21, 22, 23, 35, 36, 37, 38, 39, 40, 24, 25, 26, 27, 28, 29, 30] (by decide) rfl⟩
  · have hJ := va_join (wr := w_ly (gl 0) cA n (L 0) ++ w_ly (gl 1) cA n (L 1) ++ w_ly (gl 2) cA n (L 2) ++ w_ly (gl 3) cA n (L 3) ++ w_ly (gl 4) cA n (L 4) ++ w_o go cA o) (w1 := (w_br ga gl cA n a1 ++ w_ly (gl 5) cA n b1)) hP hD [0, 1, 2, 3, 34, 35, 36, 37, 38, 39] [4, 5, 6, 7, 8, 9, 10, 11, 12, 13, 14, 15, 16, 17, 18, 19, 20, 21, 22, 23, 24, 25, 26, 27, 28, 29, 30, 31, 32, 33, 40] rfl rfl (by decide) (by decide) hk1 hF hP1 hD1
    exact ⟨hJ.1.sub [31, 32, 33, 34, 0, 1, 2, 3, 4, 5, 6, 7, 8, 9, 10, 11, 12, 13, 14, 15, 16, 17, 18, 19, 20, 21, 22, 23, 24, 25, 26, 27, 28, 29, 35, 36, 37, 38, 39, 40, 30] rfl, hJ.2.sub [31, 32, 33, 34, 0, 1, 2, 3, 4, 5, 6, 7, 8, 9, 10, 11, 12, 13, 14, 15, 16, 17, 18, 19, 20, 21, 22, 23, 24, 25, 26, 27, 28, 29, 35, 36, 37, 38, 39, 40, 30] (by decide) rfl⟩
theorem full2g_P {D : va_G} {H : Heap} {ga : Nat → Nat} {gl : Nat → Nat → Nat} {go : Nat} {cA : Nat → ClassId} {n : Nat} {a : Nat → Nat → Int32} {L : Nat → Nat → Nat → Int32} {o : Nat → Int64} {j : Nat} (hk : j < 5) (h : va_P D vwCl (wG ga gl go cA n a L o) H) : va_P D vwCl (w_br ga gl cA n a ++ w_ly (gl (j + 1)) cA n (L (j + 1)) ++ w_ly (gl j) cA n (L j)) H := by
  rcases (show j = 0 ∨ j = 1 ∨ j = 2 ∨ j = 3 ∨ j = 4 by omega) with rfl | rfl | rfl | rfl | rfl
  · exact h.sub [0, 1, 2, 3, 10, 11, 12, 13, 14, 15, 4, 5, 6, 7, 8, 9] rfl
  · exact h.sub [0, 1, 2, 3, 16, 17, 18, 19, 20, 21, 10, 11, 12, 13, 14, 15] rfl
  · exact h.sub [0, 1, 2, 3, 22, 23, 24, 25, 26, 27, 16, 17, 18, 19, 20, 21] rfl
  · exact h.sub [0, 1, 2, 3, 28, 29, 30, 31, 32, 33, 22, 23, 24, 25, 26, 27] rfl
  · exact h.sub [0, 1, 2, 3, 34, 35, 36, 37, 38, 39, 28, 29, 30, 31, 32, 33] rfl
theorem full2g_D {D : va_G} {H : Heap} {ga : Nat → Nat} {gl : Nat → Nat → Nat} {go : Nat} {cA : Nat → ClassId} {n : Nat} {a : Nat → Nat → Int32} {L : Nat → Nat → Nat → Int32} {o : Nat → Int64} {A : Nat → Prop} {j : Nat} (hk : j < 5) (h : va_D A (wG ga gl go cA n a L o)) : va_D A (w_br ga gl cA n a ++ w_ly (gl (j + 1)) cA n (L (j + 1)) ++ w_ly (gl j) cA n (L j)) := by
  rcases (show j = 0 ∨ j = 1 ∨ j = 2 ∨ j = 3 ∨ j = 4 by omega) with rfl | rfl | rfl | rfl | rfl
  · exact h.sub [0, 1, 2, 3, 10, 11, 12, 13, 14, 15, 4, 5, 6, 7, 8, 9] (by decide) rfl
  · exact h.sub [0, 1, 2, 3, 16, 17, 18, 19, 20, 21, 10, 11, 12, 13, 14, 15] (by decide) rfl
  · exact h.sub [0, 1, 2, 3, 22, 23, 24, 25, 26, 27, 16, 17, 18, 19, 20, 21] (by decide) rfl
  · exact h.sub [0, 1, 2, 3, 28, 29, 30, 31, 32, 33, 22, 23, 24, 25, 26, 27] (by decide) rfl
  · exact h.sub [0, 1, 2, 3, 34, 35, 36, 37, 38, 39, 28, 29, 30, 31, 32, 33] (by decide) rfl
theorem full2g_F {D : va_G} {H : Heap} {ga : Nat → Nat} {gl : Nat → Nat → Nat} {go : Nat} {cA : Nat → ClassId} {n : Nat} {a : Nat → Nat → Int32} {L : Nat → Nat → Nat → Int32} {o : Nat → Int64} {A0 : Nat → Prop} {H0 : Heap} {locs : List Loc} {j : Nat} (hk : j < 5) (hD : va_D A0 (wG ga gl go cA n a L o)) (hS : va_S A0 H0 H locs) (hA : ∀ q, H0.size ≤ q → A0 q) : ∀ q, va_A (w_br ga gl cA n a ++ w_ly (gl (j + 1)) cA n (L (j + 1)) ++ w_ly (gl j) cA n (L j)) H.size q → A0 q := by
  rcases (show j = 0 ∨ j = 1 ∨ j = 2 ∨ j = 3 ∨ j = 4 by omega) with rfl | rfl | rfl | rfl | rfl
  · exact va_free hD hS hA [0, 1, 2, 3, 10, 11, 12, 13, 14, 15, 4, 5, 6, 7, 8, 9] rfl
  · exact va_free hD hS hA [0, 1, 2, 3, 16, 17, 18, 19, 20, 21, 10, 11, 12, 13, 14, 15] rfl
  · exact va_free hD hS hA [0, 1, 2, 3, 22, 23, 24, 25, 26, 27, 16, 17, 18, 19, 20, 21] rfl
  · exact va_free hD hS hA [0, 1, 2, 3, 28, 29, 30, 31, 32, 33, 22, 23, 24, 25, 26, 27] rfl
  · exact va_free hD hS hA [0, 1, 2, 3, 34, 35, 36, 37, 38, 39, 28, 29, 30, 31, 32, 33] rfl
set_option maxHeartbeats 4000000 in
set_option maxRecDepth 100000 in
theorem full2g_J {D : va_G} {H : Heap} {ga : Nat → Nat} {gl : Nat → Nat → Nat} {go : Nat} {cA : Nat → ClassId} {n : Nat} {a : Nat → Nat → Int32} {L : Nat → Nat → Nat → Int32} {o : Nat → Int64} {A0 : Nat → Prop} {H1 : Heap} {a1 b1 c1 : Nat → Nat → Int32} {j : Nat} (hk : j < 5) (hP : va_P D vwCl (wG ga gl go cA n a L o) H) (hD : va_D A0 (wG ga gl go cA n a L o)) (hk1 : ∀ q : Nat, q < H.size → ¬ va_A (w_br ga gl cA n a ++ w_ly (gl (j + 1)) cA n (L (j + 1)) ++ w_ly (gl j) cA n (L j)) H.size q → H1[q]? = H[q]?) (hF : ∀ q, va_A (w_br ga gl cA n a ++ w_ly (gl (j + 1)) cA n (L (j + 1)) ++ w_ly (gl j) cA n (L j)) H.size q → A0 q) (hP1 : va_P D vwCl (w_br ga gl cA n a1 ++ w_ly (gl (j + 1)) cA n b1 ++ w_ly (gl j) cA n c1) H1) (hD1 : va_D (va_A (w_br ga gl cA n a ++ w_ly (gl (j + 1)) cA n (L (j + 1)) ++ w_ly (gl j) cA n (L j)) H.size) (w_br ga gl cA n a1 ++ w_ly (gl (j + 1)) cA n b1 ++ w_ly (gl j) cA n c1)) : va_P D vwCl (wG ga gl go cA n a1 (va_up (va_up L (j + 1) b1) j c1) o) H1 ∧ va_D A0 (wG ga gl go cA n a1 (va_up (va_up L (j + 1) b1) j c1) o) := by
  rcases (show j = 0 ∨ j = 1 ∨ j = 2 ∨ j = 3 ∨ j = 4 by omega) with rfl | rfl | rfl | rfl | rfl
  · have hJ := va_join (wr := w_ly (gl 2) cA n (L 2) ++ w_ly (gl 3) cA n (L 3) ++ w_ly (gl 4) cA n (L 4) ++ w_ly (gl 5) cA n (L 5) ++ w_o go cA o) (w1 := (w_br ga gl cA n a1 ++ w_ly (gl 1) cA n b1 ++ w_ly (gl 0) cA n c1)) hP hD [0, 1, 2, 3, 10, 11, 12, 13, 14, 15, 4, 5, 6, 7, 8, 9] [16, 17, 18, 19, 20, 21, 22, 23, 24, 25, 26, 27, 28, 29, 30, 31, 32, 33, 34, 35, 36, 37, 38, 39, 40] rfl rfl (by decide) (by decide) hk1 hF hP1 hD1
    exact ⟨hJ.1.sub [25, 26, 27, 28, 35, 36, 37, 38, 39, 40, 29, 30, 31, 32, 33, 34, 0, 1, 2, 3, 4, 5, 6, 7, 8, 9, 10, 11, 12, 13, 14, 15, 16, 17, 18, 19, 20, 21, 22, 23, 24] rfl, hJ.2.sub [25, 26, 27, 28, 35, 36, 37, 38, 39, 40, 29, 30, 31, 32, 33, 34, 0, 1, 2, 3, 4, 5, 6, 7, 8, 9, 10, 11, 12, 13, 14, 15, 16, 17, 18, 19, 20, 21, 22, 23, 24] (by decide) rfl⟩
  · have hJ := va_join (wr := w_ly (gl 0) cA n (L 0) ++ w_ly (gl 3) cA n (L 3) ++ w_ly (gl 4) cA n (L 4) ++ w_ly (gl 5) cA n (L 5) ++ w_o go cA o) (w1 := (w_br ga gl cA n a1 ++ w_ly (gl 2) cA n b1 ++ w_ly (gl 1) cA n c1)) hP hD [0, 1, 2, 3, 16, 17, 18, 19, 20, 21, 10, 11, 12, 13, 14, 15] [4, 5, 6, 7, 8, 9, 22, 23, 24, 25, 26, 27, 28, 29, 30, 31, 32, 33, 34, 35, 36, 37, 38, 39, 40] rfl rfl (by decide) (by decide) hk1 hF hP1 hD1
    exact ⟨hJ.1.sub [25, 26, 27, 28, 0, 1, 2, 3, 4, 5, 35, 36, 37, 38, 39, 40, 29, 30, 31, 32, 33, 34, 6, 7, 8, 9, 10, 11, 12, 13, 14, 15, 16, 17, 18, 19, 20, 21, 22, 23, 24] rfl, hJ.2.sub [25, 26, 27, 28, 0, 1, 2, 3, 4, 5, 35, 36, 37, 38, 39, 40, 29, 30, 31, 32, 33, 34, 6, 7, 8, 9, 10, 11, 12, 13, 14, 15, 16, 17, 18, 19, 20, 21, 22, 23, 24] (by decide) rfl⟩
  · have hJ := va_join (wr := w_ly (gl 0) cA n (L 0) ++ w_ly (gl 1) cA n (L 1) ++ w_ly (gl 4) cA n (L 4) ++ w_ly (gl 5) cA n (L 5) ++ w_o go cA o) (w1 := (w_br ga gl cA n a1 ++ w_ly (gl 3) cA n b1 ++ w_ly (gl 2) cA n c1)) hP hD [0, 1, 2, 3, 22, 23, 24, 25, 26, 27, 16, 17, 18, 19, 20, 21] [4, 5, 6, 7, 8, 9, 10, 11, 12, 13, 14, 15, 28, 29, 30, 31, 32, 33, 34, 35, 36, 37, 38, 39, 40] rfl rfl (by decide) (by decide) hk1 hF hP1 hD1
    exact ⟨hJ.1.sub [25, 26, 27, 28, 0, 1, 2, 3, 4, 5, 6, 7, 8, 9, 10, 11, 35, 36, 37, 38, 39, 40, 29, 30, 31, 32, 33, 34, 12, 13, 14, 15, 16, 17, 18, 19, 20, 21, 22, 23, 24] rfl, hJ.2.sub [25, 26, 27, 28, 0, 1, 2, 3, 4, 5, 6, 7, 8, 9, 10, 11, 35, 36, 37, 38, 39, 40, 29, 30, 31, 32, 33, 34, 12, 13, 14, 15, 16, 17, 18, 19, 20, 21, 22, 23, 24] (by decide) rfl⟩
  · have hJ := va_join (wr := w_ly (gl 0) cA n (L 0) ++ w_ly (gl 1) cA n (L 1) ++ w_ly (gl 2) cA n (L 2) ++ w_ly (gl 5) cA n (L 5) ++ w_o go cA o) (w1 := (w_br ga gl cA n a1 ++ w_ly (gl 4) cA n b1 ++ w_ly (gl 3) cA n c1)) hP hD [0, 1, 2, 3, 28, 29, 30, 31, 32, 33, 22, 23, 24, 25, 26, 27] [4, 5, 6, 7, 8, 9, 10, 11, 12, 13, 14, 15, 16, 17, 18, 19, 20, 21, 34, 35, 36, 37, 38, 39, 40] rfl rfl (by decide) (by decide) hk1 hF hP1 hD1
    exact ⟨hJ.1.sub [25, 26, 27, 28, 0, 1, 2, 3, 4, 5, 6, 7, 8, 9, 10, 11, 12, 13, 14, 15, 16, 17, 35, 36, 37, 38, 39, 40, 29, 30, 31, 32, 33, 34, 18, 19, 20, 21, 22, 23, 24] rfl, hJ.2.sub [25, 26, 27, 28, 0, 1, 2, 3, 4, 5, 6, 7, 8, 9, 10, 11, 12, 13, 14, 15, 16, 17, 35, 36, 37, 38, 39, 40, 29, 30, 31, 32, 33, 34, 18, 19, 20, 21, 22, 23, 24] (by decide) rfl⟩
  · have hJ := va_join (wr := w_ly (gl 0) cA n (L 0) ++ w_ly (gl 1) cA n (L 1) ++ w_ly (gl 2) cA n (L 2) ++ w_ly (gl 3) cA n (L 3) ++ w_o go cA o) (w1 := (w_br ga gl cA n a1 ++ w_ly (gl 5) cA n b1 ++ w_ly (gl 4) cA n c1)) hP hD [0, 1, 2, 3, 34, 35, 36, 37, 38, 39, 28, 29, 30, 31, 32, 33] [4, 5, 6, 7, 8, 9, 10, 11, 12, 13, 14, 15, 16, 17, 18, 19, 20, 21, 22, 23, 24, 25, 26, 27, 40] rfl rfl (by decide) (by decide) hk1 hF hP1 hD1
    exact ⟨hJ.1.sub [25, 26, 27, 28, 0, 1, 2, 3, 4, 5, 6, 7, 8, 9, 10, 11, 12, 13, 14, 15, 16, 17, 18, 19, 20, 21, 22, 23, 35, 36, 37, 38, 39, 40, 29, 30, 31, 32, 33, 34, 24] rfl, hJ.2.sub [25, 26, 27, 28, 0, 1, 2, 3, 4, 5, 6, 7, 8, 9, 10, 11, 12, 13, 14, 15, 16, 17, 18, 19, 20, 21, 22, 23, 35, 36, 37, 38, 39, 40, 29, 30, 31, 32, 33, 34, 24] (by decide) rfl⟩
theorem full2e_P {D : va_G} {H : Heap} {ga : Nat → Nat} {gl : Nat → Nat → Nat} {go : Nat} {cA : Nat → ClassId} {n : Nat} {a : Nat → Nat → Int32} {L : Nat → Nat → Nat → Int32} {o : Nat → Int64} {j : Nat} (hk : j < 5) (h : va_P D vwCl (wG ga gl go cA n a L o) H) : va_P D vwCl (w_br ga gl cA n a ++ w_ly (gl j) cA n (L j) ++ w_ly (gl (j + 1)) cA n (L (j + 1))) H := by
  rcases (show j = 0 ∨ j = 1 ∨ j = 2 ∨ j = 3 ∨ j = 4 by omega) with rfl | rfl | rfl | rfl | rfl
  · exact h.sub [0, 1, 2, 3, 4, 5, 6, 7, 8, 9, 10, 11, 12, 13, 14, 15] rfl
  · exact h.sub [0, 1, 2, 3, 10, 11, 12, 13, 14, 15, 16, 17, 18, 19, 20, 21] rfl
  · exact h.sub [0, 1, 2, 3, 16, 17, 18, 19, 20, 21, 22, 23, 24, 25, 26, 27] rfl
  · exact h.sub [0, 1, 2, 3, 22, 23, 24, 25, 26, 27, 28, 29, 30, 31, 32, 33] rfl
  · exact h.sub [0, 1, 2, 3, 28, 29, 30, 31, 32, 33, 34, 35, 36, 37, 38, 39] rfl
theorem full2e_D {D : va_G} {H : Heap} {ga : Nat → Nat} {gl : Nat → Nat → Nat} {go : Nat} {cA : Nat → ClassId} {n : Nat} {a : Nat → Nat → Int32} {L : Nat → Nat → Nat → Int32} {o : Nat → Int64} {A : Nat → Prop} {j : Nat} (hk : j < 5) (h : va_D A (wG ga gl go cA n a L o)) : va_D A (w_br ga gl cA n a ++ w_ly (gl j) cA n (L j) ++ w_ly (gl (j + 1)) cA n (L (j + 1))) := by
  rcases (show j = 0 ∨ j = 1 ∨ j = 2 ∨ j = 3 ∨ j = 4 by omega) with rfl | rfl | rfl | rfl | rfl
  · exact h.sub [0, 1, 2, 3, 4, 5, 6, 7, 8, 9, 10, 11, 12, 13, 14, 15] (by decide) rfl
  · exact h.sub [0, 1, 2, 3, 10, 11, 12, 13, 14, 15, 16, 17, 18, 19, 20, 21] (by decide) rfl
  · exact h.sub [0, 1, 2, 3, 16, 17, 18, 19, 20, 21, 22, 23, 24, 25, 26, 27] (by decide) rfl
  · exact h.sub [0, 1, 2, 3, 22, 23, 24, 25, 26, 27, 28, 29, 30, 31, 32, 33] (by decide) rfl
  · exact h.sub [0, 1, 2, 3, 28, 29, 30, 31, 32, 33, 34, 35, 36, 37, 38, 39] (by decide) rfl
theorem full2e_F {D : va_G} {H : Heap} {ga : Nat → Nat} {gl : Nat → Nat → Nat} {go : Nat} {cA : Nat → ClassId} {n : Nat} {a : Nat → Nat → Int32} {L : Nat → Nat → Nat → Int32} {o : Nat → Int64} {A0 : Nat → Prop} {H0 : Heap} {locs : List Loc} {j : Nat} (hk : j < 5) (hD : va_D A0 (wG ga gl go cA n a L o)) (hS : va_S A0 H0 H locs) (hA : ∀ q, H0.size ≤ q → A0 q) : ∀ q, va_A (w_br ga gl cA n a ++ w_ly (gl j) cA n (L j) ++ w_ly (gl (j + 1)) cA n (L (j + 1))) H.size q → A0 q := by
  rcases (show j = 0 ∨ j = 1 ∨ j = 2 ∨ j = 3 ∨ j = 4 by omega) with rfl | rfl | rfl | rfl | rfl
  · exact va_free hD hS hA [0, 1, 2, 3, 4, 5, 6, 7, 8, 9, 10, 11, 12, 13, 14, 15] rfl
  · exact va_free hD hS hA [0, 1, 2, 3, 10, 11, 12, 13, 14, 15, 16, 17, 18, 19, 20, 21] rfl
  · exact va_free hD hS hA [0, 1, 2, 3, 16, 17, 18, 19, 20, 21, 22, 23, 24, 25, 26, 27] rfl
  · exact va_free hD hS hA [0, 1, 2, 3, 22, 23, 24, 25, 26, 27, 28, 29, 30, 31, 32, 33] rfl
  · exact va_free hD hS hA [0, 1, 2, 3, 28, 29, 30, 31, 32, 33, 34, 35, 36, 37, 38, 39] rfl
set_option maxHeartbeats 4000000 in
set_option maxRecDepth 100000 in
theorem full2e_J {D : va_G} {H : Heap} {ga : Nat → Nat} {gl : Nat → Nat → Nat} {go : Nat} {cA : Nat → ClassId} {n : Nat} {a : Nat → Nat → Int32} {L : Nat → Nat → Nat → Int32} {o : Nat → Int64} {A0 : Nat → Prop} {H1 : Heap} {a1 b1 c1 : Nat → Nat → Int32} {j : Nat} (hk : j < 5) (hP : va_P D vwCl (wG ga gl go cA n a L o) H) (hD : va_D A0 (wG ga gl go cA n a L o)) (hk1 : ∀ q : Nat, q < H.size → ¬ va_A (w_br ga gl cA n a ++ w_ly (gl j) cA n (L j) ++ w_ly (gl (j + 1)) cA n (L (j + 1))) H.size q → H1[q]? = H[q]?) (hF : ∀ q, va_A (w_br ga gl cA n a ++ w_ly (gl j) cA n (L j) ++ w_ly (gl (j + 1)) cA n (L (j + 1))) H.size q → A0 q) (hP1 : va_P D vwCl (w_br ga gl cA n a1 ++ w_ly (gl j) cA n b1 ++ w_ly (gl (j + 1)) cA n c1) H1) (hD1 : va_D (va_A (w_br ga gl cA n a ++ w_ly (gl j) cA n (L j) ++ w_ly (gl (j + 1)) cA n (L (j + 1))) H.size) (w_br ga gl cA n a1 ++ w_ly (gl j) cA n b1 ++ w_ly (gl (j + 1)) cA n c1)) : va_P D vwCl (wG ga gl go cA n a1 (va_up (va_up L j b1) (j + 1) c1) o) H1 ∧ va_D A0 (wG ga gl go cA n a1 (va_up (va_up L j b1) (j + 1) c1) o) := by
  rcases (show j = 0 ∨ j = 1 ∨ j = 2 ∨ j = 3 ∨ j = 4 by omega) with rfl | rfl | rfl | rfl | rfl
  · have hJ := va_join (wr := w_ly (gl 2) cA n (L 2) ++ w_ly (gl 3) cA n (L 3) ++ w_ly (gl 4) cA n (L 4) ++ w_ly (gl 5) cA n (L 5) ++ w_o go cA o) (w1 := (w_br ga gl cA n a1 ++ w_ly (gl 0) cA n b1 ++ w_ly (gl 1) cA n c1)) hP hD [0, 1, 2, 3, 4, 5, 6, 7, 8, 9, 10, 11, 12, 13, 14, 15] [16, 17, 18, 19, 20, 21, 22, 23, 24, 25, 26, 27, 28, 29, 30, 31, 32, 33, 34, 35, 36, 37, 38, 39, 40] rfl rfl (by decide) (by decide) hk1 hF hP1 hD1
    exact ⟨hJ.1.sub [25, 26, 27, 28, 29, 30, 31, 32, 33, 34, 35, 36, 37, 38, 39, 40, 0, 1, 2, 3, 4, 5, 6, 7, 8, 9, 10, 11, 12, 13, 14, 15, 16, 17, 18, 19, 20, 21, 22, 23, 24] rfl, hJ.2.sub [25, 26, 27, 28, 29, 30, 31, 32, 33, 34, 35, 36, 37, 38, 39, 40, 0, 1, 2, 3, 4, 5, 6, 7, 8, 9, 10, 11, 12, 13, 14, 15, 16, 17, 18, 19, 20, 21, 22, 23, 24] (by decide) rfl⟩
  · have hJ := va_join (wr := w_ly (gl 0) cA n (L 0) ++ w_ly (gl 3) cA n (L 3) ++ w_ly (gl 4) cA n (L 4) ++ w_ly (gl 5) cA n (L 5) ++ w_o go cA o) (w1 := (w_br ga gl cA n a1 ++ w_ly (gl 1) cA n b1 ++ w_ly (gl 2) cA n c1)) hP hD [0, 1, 2, 3, 10, 11, 12, 13, 14, 15, 16, 17, 18, 19, 20, 21] [4, 5, 6, 7, 8, 9, 22, 23, 24, 25, 26, 27, 28, 29, 30, 31, 32, 33, 34, 35, 36, 37, 38, 39, 40] rfl rfl (by decide) (by decide) hk1 hF hP1 hD1
    exact ⟨hJ.1.sub [25, 26, 27, 28, 0, 1, 2, 3, 4, 5, 29, 30, 31, 32, 33, 34, 35, 36, 37, 38, 39, 40, 6, 7, 8, 9, 10, 11, 12, 13, 14, 15, 16, 17, 18, 19, 20, 21, 22, 23, 24] rfl, hJ.2.sub [25, 26, 27, 28, 0, 1, 2, 3, 4, 5, 29, 30, 31, 32, 33, 34, 35, 36, 37, 38, 39, 40, 6, 7, 8, 9, 10, 11, 12, 13, 14, 15, 16, 17, 18, 19, 20, 21, 22, 23, 24] (by decide) rfl⟩
  · have hJ := va_join (wr := w_ly (gl 0) cA n (L 0) ++ w_ly (gl 1) cA n (L 1) ++ w_ly (gl 4) cA n (L 4) ++ w_ly (gl 5) cA n (L 5) ++ w_o go cA o) (w1 := (w_br ga gl cA n a1 ++ w_ly (gl 2) cA n b1 ++ w_ly (gl 3) cA n c1)) hP hD [0, 1, 2, 3, 16, 17, 18, 19, 20, 21, 22, 23, 24, 25, 26, 27] [4, 5, 6, 7, 8, 9, 10, 11, 12, 13, 14, 15, 28, 29, 30, 31, 32, 33, 34, 35, 36, 37, 38, 39, 40] rfl rfl (by decide) (by decide) hk1 hF hP1 hD1
    exact ⟨hJ.1.sub [25, 26, 27, 28, 0, 1, 2, 3, 4, 5, 6, 7, 8, 9, 10, 11, 29, 30, 31, 32, 33, 34, 35, 36, 37, 38, 39, 40, 12, 13, 14, 15, 16, 17, 18, 19, 20, 21, 22, 23, 24] rfl, hJ.2.sub [25, 26, 27, 28, 0, 1, 2, 3, 4, 5, 6, 7, 8, 9, 10, 11, 29, 30, 31, 32, 33, 34, 35, 36, 37, 38, 39, 40, 12, 13, 14, 15, 16, 17, 18, 19, 20, 21, 22, 23, 24] (by decide) rfl⟩
  · have hJ := va_join (wr := w_ly (gl 0) cA n (L 0) ++ w_ly (gl 1) cA n (L 1) ++ w_ly (gl 2) cA n (L 2) ++ w_ly (gl 5) cA n (L 5) ++ w_o go cA o) (w1 := (w_br ga gl cA n a1 ++ w_ly (gl 3) cA n b1 ++ w_ly (gl 4) cA n c1)) hP hD [0, 1, 2, 3, 22, 23, 24, 25, 26, 27, 28, 29, 30, 31, 32, 33] [4, 5, 6, 7, 8, 9, 10, 11, 12, 13, 14, 15, 16, 17, 18, 19, 20, 21, 34, 35, 36, 37, 38, 39, 40] rfl rfl (by decide) (by decide) hk1 hF hP1 hD1
    exact ⟨hJ.1.sub [25, 26, 27, 28, 0, 1, 2, 3, 4, 5, 6, 7, 8, 9, 10, 11, 12, 13, 14, 15, 16, 17, 29, 30, 31, 32, 33, 34, 35, 36, 37, 38, 39, 40, 18, 19, 20, 21, 22, 23, 24] rfl, hJ.2.sub [25, 26, 27, 28, 0, 1, 2, 3, 4, 5, 6, 7, 8, 9, 10, 11, 12, 13, 14, 15, 16, 17, 29, 30, 31, 32, 33, 34, 35, 36, 37, 38, 39, 40, 18, 19, 20, 21, 22, 23, 24] (by decide) rfl⟩
  · have hJ := va_join (wr := w_ly (gl 0) cA n (L 0) ++ w_ly (gl 1) cA n (L 1) ++ w_ly (gl 2) cA n (L 2) ++ w_ly (gl 3) cA n (L 3) ++ w_o go cA o) (w1 := (w_br ga gl cA n a1 ++ w_ly (gl 4) cA n b1 ++ w_ly (gl 5) cA n c1)) hP hD [0, 1, 2, 3, 28, 29, 30, 31, 32, 33, 34, 35, 36, 37, 38, 39] [4, 5, 6, 7, 8, 9, 10, 11, 12, 13, 14, 15, 16, 17, 18, 19, 20, 21, 22, 23, 24, 25, 26, 27, 40] rfl rfl (by decide) (by decide) hk1 hF hP1 hD1
    exact ⟨hJ.1.sub [25, 26, 27, 28, 0, 1, 2, 3, 4, 5, 6, 7, 8, 9, 10, 11, 12, 13, 14, 15, 16, 17, 18, 19, 20, 21, 22, 23, 29, 30, 31, 32, 33, 34, 35, 36, 37, 38, 39, 40, 24] rfl, hJ.2.sub [25, 26, 27, 28, 0, 1, 2, 3, 4, 5, 6, 7, 8, 9, 10, 11, 12, 13, 14, 15, 16, 17, 18, 19, 20, 21, 22, 23, 29, 30, 31, 32, 33, 34, 35, 36, 37, 38, 39, 40, 24] (by decide) rfl⟩
theorem full0_J {D : va_G} {H : Heap} {ga : Nat → Nat} {gl : Nat → Nat → Nat} {go : Nat} {cA : Nat → ClassId} {n : Nat} {a : Nat → Nat → Int32} {L : Nat → Nat → Nat → Int32} {o : Nat → Int64} {A0 : Nat → Prop} {H1 : Heap} {a1 : Nat → Nat → Int32} (hP : va_P D vwCl (wG ga gl go cA n a L o) H) (hD : va_D A0 (wG ga gl go cA n a L o)) (hk1 : ∀ q : Nat, q < H.size → ¬ va_A (w_br ga gl cA n a) H.size q → H1[q]? = H[q]?) (hF : ∀ q, va_A (w_br ga gl cA n a) H.size q → A0 q) (hP1 : va_P D vwCl (w_br ga gl cA n a1) H1) (hD1 : va_D (va_A (w_br ga gl cA n a) H.size) (w_br ga gl cA n a1)) : va_P D vwCl (wG ga gl go cA n a1 L o) H1 ∧ va_D A0 (wG ga gl go cA n a1 L o) := by
  have hJ := va_join (wr := wL gl cA n L ++ w_o go cA o) (w1 := w_br ga gl cA n a1) hP hD [0, 1, 2, 3] [4, 5, 6, 7, 8, 9, 10, 11, 12, 13, 14, 15, 16, 17, 18, 19, 20, 21, 22, 23, 24, 25, 26, 27, 28, 29, 30, 31, 32, 33, 34, 35, 36, 37, 38, 39, 40] rfl rfl (by decide) (by decide) hk1 hF hP1 hD1
  exact ⟨hJ.1.sub [37, 38, 39, 40, 0, 1, 2, 3, 4, 5, 6, 7, 8, 9, 10, 11, 12, 13, 14, 15, 16, 17, 18, 19, 20, 21, 22, 23, 24, 25, 26, 27, 28, 29, 30, 31, 32, 33, 34, 35, 36] rfl, hJ.2.sub [37, 38, 39, 40, 0, 1, 2, 3, 4, 5, 6, 7, 8, 9, 10, 11, 12, 13, 14, 15, 16, 17, 18, 19, 20, 21, 22, 23, 24, 25, 26, 27, 28, 29, 30, 31, 32, 33, 34, 35, 36] (by decide) rfl⟩
