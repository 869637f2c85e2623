/-! the words that every method takes: its own code, and all good words of the tables -/
def gG : List Cond := lw_tbl.filter goodWord
theorem gG_good {w : Cond} (h : w ∈ gG) : (w.onTables && w.keeps) = true ∨ ∃ ty, w = .arrayClass ty := good_of_word (List.mem_filter.mp h).2
theorem gG_in {a b : Cond} (hb : b ∈ gG) : GoodIn (a :: gG) (b :: gG) := by
  intro w hw
  rcases List.mem_cons.mp hw with h | h
  · subst h; exact ⟨List.mem_cons_of_mem _ hb, gG_good hb⟩
  · exact ⟨List.mem_cons_of_mem _ h, gG_good h⟩
theorem gG_mk {w : Cond} {i : Nat} (h : lw_tbl[i]? = some w) (hg : goodWord w = true) : w ∈ gG := List.mem_filter.mpr ⟨List.mem_of_getElem? h, hg⟩
theorem xm {a w : Cond} (h : w ∈ gG) : w ∈ a :: gG := List.mem_cons_of_mem _ h
theorem gcS {R : Room} {s : State} {args : Array Value} {own : String} {index maxL mc ms : Nat} {y : MethodName} {bytes : ByteArray} {ret : Option FieldType} {rm : Room} {a : Cond} (n : Nat) (ht : ∀ w ∈ a :: gG, w.before args s = true) (hc : Cond.code y bytes maxL ret ∈ gG) (hl : Cond.methodLink own index y ∈ gG) (hs : Cond.static y ∈ gG) (hi : Cond.initialized y.cls ∈ gG) (hrc : rm.cells = mc) (hrs : rm.slots = ms)
    (hd : y.cls ≠ "java/lang/invoke/MethodHandle" ∧ y.cls ≠ "java/lang/invoke/VarHandle" ∧ (parseMethodDescriptor y.desc).map (fun d => d.parameters.length) = some n) (hR : rm.frames + 1 ≤ R.frames ∧ 8 + (maxL + 11) + rm.locals ≤ R.locals) :
    CallB R s args own index y bytes maxL ret (Cond.code y bytes maxL ret :: gG) rm mc ms n ∧ (Cond.static y).before args s = true :=
  ⟨callB_of n ht (gG_in hc) rfl hrc hrs (ht _ (xm hi)) (ht _ (xm hl)) hd hR, ht _ (xm hs)⟩
theorem gcV {R : Room} {s : State} {args : Array Value} {own C : String} {index maxL mc ms : Nat} {y : MethodName} {bytes : ByteArray} {ret : Option FieldType} {rm : Room} {a : Cond} (n : Nat) (ht : ∀ w ∈ a :: gG, w.before args s = true) (hc : Cond.code y bytes maxL ret ∈ gG) (hl : Cond.methodLink own index y ∈ gG) (hs : Cond.instanceMethod y ∈ gG) (hse : Cond.selects C y y ∈ gG) (hi : Cond.initialized y.cls ∈ gG) (hrc : rm.cells = mc) (hrs : rm.slots = ms)
    (hd : y.cls ≠ "java/lang/invoke/MethodHandle" ∧ y.cls ≠ "java/lang/invoke/VarHandle" ∧ (parseMethodDescriptor y.desc).map (fun d => d.parameters.length) = some n) (hR : rm.frames + 1 ≤ R.frames ∧ 8 + (maxL + 11) + rm.locals ≤ R.locals) :
    CallW R s args own C index y bytes maxL ret (Cond.code y bytes maxL ret :: gG) rm mc ms n :=
  ⟨callB_of n ht (gG_in hc) rfl hrc hrs (ht _ (xm hi)) (ht _ (xm hl)) hd hR, ht _ (xm hs), ht _ (xm hse)⟩
theorem xofW {l : Launch} {y : MethodName} {ws ws' : List Cond} {rm : Room} {Pc : Array Value → State → Prop} {Qc : Array Value → State → Outcome → State → Prop} {mc ms : Nat} {free : Addr → Prop} {cc : ByteArray} {maxL : Nat} {ret : Option FieldType}
    (hy : plainFor y = true) (hw : ws = Cond.code y cc maxL ret :: ws')
    (body : ∀ p e s m args below meth c s₁, BodyLoose p l y (headSpec ws rm) cc maxL ret e s m args below meth c s₁ → c.maxLocals = maxL → Pc args s →
      W p l e (headSpec ws rm).room s m args below meth c s.heap [] 0 0 (MQ below Qc args s mc ms free) (entryFrame m args maxL)) : Met l y ws rm Pc Qc mc ms free := by
  refine MetFree.of_bodySF (code := cc) (maxLocals := maxL) (ret := ret) hy ?_ ?_
  · intro args s m h hn
    obtain ⟨meth, c, h1, h2, h3, h4, h5, h6, -, -⟩ := Cond.code_spec hn (atoms_spec (ws := ws) h _ (by rw [hw]; exact List.mem_cons_self))
    exact ⟨meth, c, h1, h2, h3, h4, h5, h6⟩
  · intro p e s m args below meth c s₁ B hml hP _
    have hh0 : s₁.heap = s.heap := by rw [B.state]; rfl
    obtain ⟨t, a1, o, b1, b2, b3⟩ := body p e s m args below meth c s₁ B hml hP s₁ hh0 (Stand.of_body B)
    exact ⟨t, o, a1, b1, b2, ⟨b3.1, b3.2⟩⟩
/-! the worlds: an object with its arrays; the state is a function of the array's number (0: the object's own ints) and the place -/
abbrev tyA (cA : Nat → ClassId) : List (ClassId × FieldType) := [(cA 0, .int), (cA 1, .boolean), (cA 2, .object "BlendRows$Layer"), (cA 3, .long)]
abbrev w_ly (g : Nat → Nat) (cA : Nat → ClassId) (n : Nat) (b : Nat → Nat → Int32) : va_W := [(g 0, .inr (1, [.int (b 0 0), .ref (g 1), .ref (g 2), .ref (g 3), .ref (g 4), .ref (g 5), .int (b 0 1)])), (g 1, .inl (cA 0, n, .inl (b 1))), (g 2, .inl (cA 0, n, .inl (b 2))), (g 3, .inl (cA 0, n, .inl (b 3))), (g 4, .inl (cA 0, n, .inl (b 4))), (g 5, .inl (cA 0, n, .inl (b 5)))]
abbrev w_br (ga : Nat → Nat) (gl : Nat → Nat → Nat) (cA : Nat → ClassId) (n : Nat) (a : Nat → Nat → Int32) : va_W := [(ga 0, .inr (2, [.int (a 0 0), .int (a 0 1), .int (a 0 2), .ref (ga 1), .ref (ga 2), .ref (ga 3), .int (a 0 3), .int (a 0 4), .int (a 0 5), .int (a 0 6), .int (a 0 7), .int (a 0 8), .int (a 0 9)])), (ga 1, .inl (cA 0, n, .inl (a 1))), (ga 2, .inl (cA 0, n, .inl (a 2))), (ga 3, .inl (cA 2, 6, .inr (.inr (.inr (.inr (fun j => some (gl j 0)))))))]
abbrev w_md (gm : Nat → Nat) (cA : Nat → ClassId) (m : Nat → Nat → Int32) : va_W := [(gm 0, .inr (3, [.int (m 0 0), .int (m 0 1), .int (m 0 2), .int (m 0 3), .int (m 0 4), .ref (gm 1), .int (m 0 5), .ref (gm 2), .ref (gm 3), .ref (gm 4), .ref (gm 5), .ref (gm 6), .ref (gm 7), .int (m 0 6), .ref (gm 8), .ref (gm 9), .ref (gm 10), .ref (gm 11), .int (m 0 7), .ref (gm 12), .ref (gm 13), .ref (gm 14), .ref (gm 15)])),
  (gm 1, .inl (cA 0, 41, .inl (m 1))), (gm 2, .inl (cA 1, 8, .inl (m 2))), (gm 3, .inl (cA 0, 3456, .inl (m 3))), (gm 4, .inl (cA 0, 1152, .inl (m 4))), (gm 5, .inl (cA 0, 3456, .inl (m 5))), (gm 6, .inl (cA 0, 1152, .inl (m 6))), (gm 7, .inl (cA 0, 1152, .inl (m 7))), (gm 8, .inl (cA 0, 144, .inl (m 8))), (gm 9, .inl (cA 0, 144, .inl (m 9))), (gm 10, .inl (cA 0, 3, .inl (m 10))), (gm 11, .inl (cA 1, 3, .inl (m 11))), (gm 12, .inl (cA 0, 3, .inl (m 12))), (gm 13, .inl (cA 0, 3, .inl (m 13))), (gm 14, .inl (cA 0, 3, .inl (m 14))), (gm 15, .inl (cA 0, 3, .inl (m 15)))]
abbrev w_a3 (gz : Nat) (cA : Nat → ClassId) (z : Nat → Int32) : va_W := [(gz, .inl (cA 0, 3, .inl z))]
def st (a : Nat → Nat → Int32) (k j : Nat) (v : Int32) : Nat → Nat → Int32 := va_up a k (upd (a k) j v)
def bz (k : Int32) : Prop := narrow .boolean (.int k) = .int k ∧ fits .boolean (.int k) = true
/-! starts and ends -/
def xP0 (As : List Value) : Array Value → State → Prop := va_Pc As (fun _ => True)
def xP1 (dC : Nat → ClassId) (dI : Nat → Nat → Nat) (cA : Nat → ClassId) (W : va_W) (As : List Value) : Array Value → State → Prop := va_Pc As (fun U => va_P (dC, dI) vwCl W U.heap ∧ va_K (dC, dI) vwCl (tyA cA) U)
def xP2 (dC : Nat → ClassId) (dI : Nat → Nat → Nat) (cA : Nat → ClassId) (W : va_W) (sz : Nat) (As : List Value) : Array Value → State → Prop := va_Pc As (fun U => U.heap.size = sz ∧ va_P (dC, dI) vwCl W U.heap ∧ va_K (dC, dI) vwCl (tyA cA) U ∧ va_D (fun _ => True) W)
def xB (dC : Nat → ClassId) (dI : Nat → Nat → Nat) (cA : Nat → ClassId) {S : Type} (Wf : S → va_W) (A : Nat → Prop) (u : S) (t : State) : Prop := va_P (dC, dI) vwCl (Wf u) t.heap ∧ va_K (dC, dI) vwCl (tyA cA) t ∧ va_D A (Wf u)
def xSr (post : Nat → Prop) : Array Value → State → Outcome → State → Prop := fun _ st o t => ∃ r : Nat, o = .returned (some (.ref r)) ∧ post r ∧ t.heap = st.heap
theorem xbl0 {As : List Value} : FrameBlind (xP0 As) := fun _ _ _ _ q => ⟨q.1, trivial⟩
theorem xbl1 {dC : Nat → ClassId} {dI : Nat → Nat → Nat} {cA : Nat → ClassId} {W : va_W} {As : List Value} : FrameBlind (xP1 dC dI cA W As) := fun a U g mk q => ⟨q.1, q.2.1, va_K.moved (u := U) (U := U.calling g mk a) (Vm.Alike.refl U.vm) q.2.2⟩
theorem xbl2 {dC : Nat → ClassId} {dI : Nat → Nat → Nat} {cA : Nat → ClassId} {W : va_W} {sz : Nat} {As : List Value} : FrameBlind (xP2 dC dI cA W sz As) := fun a U g mk q => ⟨q.1, q.2.1, q.2.2.1, va_K.moved (u := U) (U := U.calling g mk a) (Vm.Alike.refl U.vm) q.2.2.2.1, q.2.2.2.2⟩
theorem xin {i : Int32} {n : Nat} (h : ¬ (i < 0 ∨ n ≤ i.toNatClampNeg)) : vp_in i n := h
section XR
variable {p : Program} {l : Launch} {e : Env} {R : Room} {s : State} {m : MethodId} {args : Array Value} {below : List Frame} {meth : Method} {c : Code} {H : Heap} {locs : List Loc} {cells slots : Nat} {Q : State → Prop} {pc : Nat} {ls : Array Slot} {rest : List Value}
theorem xtop {x y : Int32} (h : x = y) (k : W p l e R s m args below meth c H locs cells slots Q (F0 m pc ls (.int y :: rest))) : W p l e R s m args below meth c H locs cells slots Q (F0 m pc ls (.int x :: rest)) := h ▸ k
theorem xtopv {x y : Value} (h : x = y) (k : W p l e R s m args below meth c H locs cells slots Q (F0 m pc ls (y :: rest))) : W p l e R s m args below meth c H locs cells slots Q (F0 m pc ls (x :: rest)) := h ▸ k
theorem xcallSr {post : Nat → Prop} {a : Array Value} {st0 : List Value} (hr : CallRun p l e R s m args below meth c H locs cells slots 0 0 (F0 m pc ls st0) rest (xSr post a) (fun _ => False))
    (kk : ∀ r : Nat, post r → W p l e R s m args below meth c H locs cells slots Q (F0 m (pc + 3) ls (.ref r :: rest))) : W p l e R s m args below meth c H locs cells slots Q (F0 m pc ls st0) := by
  intro T hT X
  obtain ⟨v, st₀, t, T', L, h0, X', hL, e1, ⟨r, hv, hp, hh⟩, st⟩ := hr T hT X
  cases hv
  obtain ⟨t2, a1, b1⟩ := kk r hp T' (by rw [e1, hh, h0]) (Stand.forget X' (fun q h => (hL q h).elim))
  exact ⟨t2, st t2 a1, b1⟩
end XR
theorem xsw0_5 {x : Int32} (h0 : ¬ x = 0) (h1 : ¬ x = 1) (h2 : ¬ x = 2) (h3 : ¬ x = 3) (h4 : ¬ x = 4) (h5 : ¬ x = 5) : x.toInt < 0 ∨ 5 < x.toInt := by
  have e0 := lv_neT h0 (a := 0) rfl; have e1 := lv_neT h1 (a := 1) rfl; have e2 := lv_neT h2 (a := 2) rfl; have e3 := lv_neT h3 (a := 3) rfl; have e4 := lv_neT h4 (a := 4) rfl; have e5 := lv_neT h5 (a := 5) rfl
  omega
theorem xsw0_4 {x : Int32} (h0 : ¬ x = 0) (h1 : ¬ x = 1) (h2 : ¬ x = 2) (h3 : ¬ x = 3) (h4 : ¬ x = 4) : x.toInt < 0 ∨ 4 < x.toInt := by
  have e0 := lv_neT h0 (a := 0) rfl; have e1 := lv_neT h1 (a := 1) rfl; have e2 := lv_neT h2 (a := 2) rfl; have e3 := lv_neT h3 (a := 3) rfl; have e4 := lv_neT h4 (a := 4) rfl
  omega
theorem xsw12_15 {x : Int32} (h0 : ¬ x = 12) (h1 : ¬ x = 13) (h2 : ¬ x = 14) (h3 : ¬ x = 15) : x.toInt < 12 ∨ 15 < x.toInt := by
  have e0 := lv_neT h0 (a := 12) rfl; have e1 := lv_neT h1 (a := 13) rfl; have e2 := lv_neT h2 (a := 14) rfl; have e3 := lv_neT h3 (a := 15) rfl
  omega
theorem xsw1_11 {x : Int32} (h1 : ¬ x = 1) (h2 : ¬ x = 2) (h3 : ¬ x = 3) (h4 : ¬ x = 4) (h5 : ¬ x = 5) (h6 : ¬ x = 6) (h7 : ¬ x = 7) (h8 : ¬ x = 8) (h9 : ¬ x = 9) (h10 : ¬ x = 10) (h11 : ¬ x = 11) : x.toInt < 1 ∨ 11 < x.toInt := by
  have e1 := lv_neT h1 (a := 1) rfl; have e2 := lv_neT h2 (a := 2) rfl; have e3 := lv_neT h3 (a := 3) rfl; have e4 := lv_neT h4 (a := 4) rfl; have e5 := lv_neT h5 (a := 5) rfl; have e6 := lv_neT h6 (a := 6) rfl; have e7 := lv_neT h7 (a := 7) rfl; have e8 := lv_neT h8 (a := 8) rfl; have e9 := lv_neT h9 (a := 9) rfl; have e10 := lv_neT h10 (a := 10) rfl; have e11 := lv_neT h11 (a := 11) rfl
  omega
theorem jX0 : ∀ w ∈ wsX00, w ∈ gG := by decide +kernel
theorem jX3 : ∀ w ∈ wsX30, w ∈ gG := by decide +kernel
theorem jX4 : ∀ w ∈ wsX40, w ∈ gG := by decide +kernel
theorem iX0 {a : Cond} : ∀ w ∈ wsX00, w ∈ a :: gG := fun w h => xm (jX0 w h)
theorem iX3 {a : Cond} : ∀ w ∈ wsX30, w ∈ a :: gG := fun w h => xm (jX3 w h)
theorem iX4 {a : Cond} : ∀ w ∈ wsX40, w ∈ a :: gG := fun w h => xm (jX4 w h)
/-! throwing -/
def xdc : Cond → Bool
  | .declares _ => true
  | .castable _ _ => true
  | _ => false
def xDC : List Cond := lw_tbl.filter xdc
def xS : List (Nat × String) := [(62, "nothing is told of that"), (67, "a bound is 1 .. 6"), (71, "no group goes deeper"), (163, "the page never ends"), (178, "there is no such mode"), (173, "a byte is 0 .. 255"), (124, "a mask is of kind 1 or 2"), (171, "a colour has no such band"), (168, "the page has no such point"), (147, "a point has no such alpha"), (176, "a colour is 0 .. 16777215")]
def xE (sa : Nat → Nat) (U : State) : Prop := vx_Zq Bundle.tN "UNASSIGNED_STACK" Bundle.steD (fun _ => False) U U.heap ∧ vx_Zq Bundle.tN "SUPPRESSED_SENTINEL" Bundle.listD (fun _ => False) U U.heap ∧ (∀ (i : Nat) (q : Nat × String), xS[i]? = some q → vk_R RX3 q.1 q.2 (sa i) U) ∧ ∀ w ∈ xDC, va_Nw w U
theorem xdc_warm {w : Cond} {s U : State} (h : xdc w = true) (hW : s.WarmedH U.vm) (hZ : va_Nw w s) : va_Nw w U := by
  cases w <;> first | (simp [xdc] at h; done) | exact va_Nw.warmD hW hZ | exact va_Nw.warmC hW hZ
theorem xdc_tab {w : Cond} (h : xdc w = true) : w.onTables = true := by
  cases w <;> first | (simp [xdc] at h; done) | rfl
theorem xEmv {sa : Nat → Nat} {s U : State} {H : Heap} {locs : List Loc} (h : xE sa s) (hW : s.WarmedH U.vm) (hS : va_S (fun _ => False) s.heap H locs) (hU : U.heap = H) : xE sa U := by
  obtain ⟨h1, h2, h3, h4⟩ := h
  refine ⟨?_, ?_, fun i q hq => vk_R.warm hW (h3 i q hq), fun w hw => xdc_warm (List.mem_filter.mp hw).2 hW (h4 w hw)⟩
  · rw [hU]; exact vx_Zq.moved hW.alike (h1.kept hS.2.1)
  · rw [hU]; exact vx_Zq.moved hW.alike (h2.kept hS.2.1)
theorem xEbl {sa : Nat → Nat} {U : State} {g : JFrame} {mk : MethodId} {a : Array Value} (h : xE sa U) : xE sa (U.calling g mk a) := by
  obtain ⟨h1, h2, h3, h4⟩ := h
  refine ⟨vx_Zq.moved (u := U) (U := U.calling g mk a) (Vm.Alike.refl U.vm) h1, vx_Zq.moved (u := U) (U := U.calling g mk a) (Vm.Alike.refl U.vm) h2, fun i q hq => vk_R.same (u := U) rfl (h3 i q hq), fun w hw => va_Nw.same (xdc_tab (List.mem_filter.mp hw).2) (u := U) rfl (h4 w hw)⟩
def xX (PX : String → Prop) : String → State → State → Prop := vx_X PX (fun E u (_ : State) => E = u) (fun _ => False)
def xP0t (sa : Nat → Nat) (As : List Value) : Array Value → State → Prop := va_Pc As (fun U => xE sa U)
def xP1t (dC : Nat → ClassId) (dI : Nat → Nat → Nat) (cA : Nat → ClassId) (sa : Nat → Nat) (W : va_W) (As : List Value) : Array Value → State → Prop := va_Pc As (fun U => va_P (dC, dI) vwCl W U.heap ∧ va_K (dC, dI) vwCl (tyA cA) U ∧ xE sa U)
def xP2t (dC : Nat → ClassId) (dI : Nat → Nat → Nat) (cA : Nat → ClassId) (sa : Nat → Nat) (W : va_W) (sz : Nat) (As : List Value) : Array Value → State → Prop := va_Pc As (fun U => U.heap.size = sz ∧ va_P (dC, dI) vwCl W U.heap ∧ va_K (dC, dI) vwCl (tyA cA) U ∧ va_D (fun _ => True) W ∧ xE sa U)
theorem xbl0t {sa : Nat → Nat} {As : List Value} : FrameBlind (xP0t sa As) := fun _ _ _ _ q => ⟨q.1, xEbl q.2⟩
theorem xbl1t {dC : Nat → ClassId} {dI : Nat → Nat → Nat} {cA : Nat → ClassId} {sa : Nat → Nat} {W : va_W} {As : List Value} : FrameBlind (xP1t dC dI cA sa W As) := fun a U g mk q => ⟨q.1, q.2.1, va_K.moved (u := U) (U := U.calling g mk a) (Vm.Alike.refl U.vm) q.2.2.1, xEbl q.2.2.2⟩
theorem xbl2t {dC : Nat → ClassId} {dI : Nat → Nat → Nat} {cA : Nat → ClassId} {sa : Nat → Nat} {W : va_W} {sz : Nat} {As : List Value} : FrameBlind (xP2t dC dI cA sa W sz As) := fun a U g mk q => ⟨q.1, q.2.1, q.2.2.1, va_K.moved (u := U) (U := U.calling g mk a) (Vm.Alike.refl U.vm) q.2.2.2.1, q.2.2.2.2.1, xEbl q.2.2.2.2.2⟩
theorem xmono {A : Nat → Prop} {H0 H : Heap} {locs : List Loc} (h : va_S (fun _ => False) H0 H locs) : va_S A H0 H locs := ⟨h.1, fun q h1 _ => h.2.1 q h1 id, fun q hq => (h.2.2 q hq).elim⟩
theorem xF {s t : State} {H : Heap} {locs : List Loc} (hS : va_S (fun _ => False) s.heap H locs) (h1 : H.size ≤ t.heap.size) (h2 : ∀ q : Nat, q < H.size → t.heap[q]? = H[q]?) : va_F (fun _ => False) s t := ⟨Nat.le_trans hS.1 h1, fun q hq hn => (h2 q (Nat.lt_of_lt_of_le hq hS.1)).trans (hS.2.1 q hq hn)⟩
theorem xkeep {D : va_G} {cl : List vw_C} {ws : va_W} {H H1 : Heap} (h : va_P D cl ws H) (hk : ∀ q : Nat, q < H.size → ¬ False → H1[q]? = H[q]?) : va_P D cl ws H1 := h.kept (fun _ _ hk2 => hk _ (vx_lt h hk2) id)
theorem xhat {own : String} {ic : Nat} {X : String} {names : List String} {sa : Nat → Nat} {s : State} {args : Array Value} {a : Cond} (hd : ∀ w ∈ vx_atS own ic X names, w ∈ gG ∨ w ∈ xDC) (hts : ∀ w ∈ a :: gG, w.before args s = true) (hE : xE sa s) : ∀ w ∈ vx_atS own ic X names, w.before args s = true := fun w hw => (hd w hw).elim (fun h => hts w (xm h)) (fun h => va_Nw.use (xdc_tab (List.mem_filter.mp h).2) (hE.2.2.2 w h))
