section
-- ===== PART A: goes FIRST, ahead of the names: the tables' words, and 'selects' of the private methods out of them =====
/-- a private method of a class that the tables say can be made, by its rows of tables_1 -/
def lw_okq (q : MethodName × Nat) : Prop := (q.1.cls ≠ "java/lang/invoke/MethodHandle" ∧ q.1.cls ≠ "java/lang/invoke/VarHandle") ∧ Cond.instantiable q.1.cls q.2 ∈ tables_1 ∧ Cond.privateMethod q.1 ∈ tables_1 ∧ Cond.instanceMethod q.1 ∈ tables_1
theorem lw_p0 : lw_okq (⟨"java/lang/Throwable", "fillInStackTrace", "(I)Ljava/lang/Throwable;"⟩, 6) := ⟨⟨by decide +kernel, by decide +kernel⟩, List.mem_of_getElem? (i := 154) (by decide +kernel), List.mem_of_getElem? (i := 152) (by decide +kernel), List.mem_of_getElem? (i := 153) (by decide +kernel)⟩
theorem lw_p1 : lw_okq (⟨"BlendRows", "hereIsFlat", "()Z"⟩, 13) := ⟨⟨by decide +kernel, by decide +kernel⟩, List.mem_of_getElem? (i := 16) (by decide +kernel), List.mem_of_getElem? (i := 216) (by decide +kernel), List.mem_of_getElem? (i := 217) (by decide +kernel)⟩
theorem lw_p2 : lw_okq (⟨"BlendRows", "here", "()LBlendRows$Layer;"⟩, 13) := ⟨⟨by decide +kernel, by decide +kernel⟩, List.mem_of_getElem? (i := 16) (by decide +kernel), List.mem_of_getElem? (i := 220) (by decide +kernel), List.mem_of_getElem? (i := 221) (by decide +kernel)⟩
theorem lw_p3 : lw_okq (⟨"BlendRows", "needGroup", "()V"⟩, 13) := ⟨⟨by decide +kernel, by decide +kernel⟩, List.mem_of_getElem? (i := 16) (by decide +kernel), List.mem_of_getElem? (i := 250) (by decide +kernel), List.mem_of_getElem? (i := 251) (by decide +kernel)⟩
theorem lw_p4 : lw_okq (⟨"BlendRows", "leave", "()LBlendRows$Layer;"⟩, 13) := ⟨⟨by decide +kernel, by decide +kernel⟩, List.mem_of_getElem? (i := 16) (by decide +kernel), List.mem_of_getElem? (i := 278) (by decide +kernel), List.mem_of_getElem? (i := 279) (by decide +kernel)⟩
theorem lw_p5 : lw_okq (⟨"BlendRows$Layer", "resultBand", "(II)I"⟩, 7) := ⟨⟨by decide +kernel, by decide +kernel⟩, List.mem_of_getElem? (i := 31) (by decide +kernel), List.mem_of_getElem? (i := 295) (by decide +kernel), List.mem_of_getElem? (i := 296) (by decide +kernel)⟩
theorem lw_p6 : lw_okq (⟨"BlendRows", "leftByMask", "(II)I"⟩, 13) := ⟨⟨by decide +kernel, by decide +kernel⟩, List.mem_of_getElem? (i := 16) (by decide +kernel), List.mem_of_getElem? (i := 310) (by decide +kernel), List.mem_of_getElem? (i := 311) (by decide +kernel)⟩
theorem lw_p7 : lw_okq (⟨"BlendRows", "needPoint", "(II)V"⟩, 13) := ⟨⟨by decide +kernel, by decide +kernel⟩, List.mem_of_getElem? (i := 16) (by decide +kernel), List.mem_of_getElem? (i := 438) (by decide +kernel), List.mem_of_getElem? (i := 439) (by decide +kernel)⟩
theorem lw_p8 : lw_okq (⟨"BlendRowsModel", "alphaOf", "(II)I"⟩, 23) := ⟨⟨by decide +kernel, by decide +kernel⟩, List.mem_of_getElem? (i := 503) (by decide +kernel), List.mem_of_getElem? (i := 596) (by decide +kernel), List.mem_of_getElem? (i := 597) (by decide +kernel)⟩
theorem lw_p9 : lw_okq (⟨"BlendRowsModel", "leave", "()I"⟩, 23) := ⟨⟨by decide +kernel, by decide +kernel⟩, List.mem_of_getElem? (i := 503) (by decide +kernel), List.mem_of_getElem? (i := 610) (by decide +kernel), List.mem_of_getElem? (i := 611) (by decide +kernel)⟩
theorem lw_p10 : lw_okq (⟨"BlendRowsModel", "pointAt", "(II)I"⟩, 23) := ⟨⟨by decide +kernel, by decide +kernel⟩, List.mem_of_getElem? (i := 503) (by decide +kernel), List.mem_of_getElem? (i := 614) (by decide +kernel), List.mem_of_getElem? (i := 615) (by decide +kernel)⟩
theorem lw_p11 : lw_okq (⟨"BlendRowsModel", "result", "(II)V"⟩, 23) := ⟨⟨by decide +kernel, by decide +kernel⟩, List.mem_of_getElem? (i := 503) (by decide +kernel), List.mem_of_getElem? (i := 618) (by decide +kernel), List.mem_of_getElem? (i := 619) (by decide +kernel)⟩
theorem lw_p12 : lw_okq (⟨"BlendRowsModel", "leaves", "(II)I"⟩, 23) := ⟨⟨by decide +kernel, by decide +kernel⟩, List.mem_of_getElem? (i := 503) (by decide +kernel), List.mem_of_getElem? (i := 622) (by decide +kernel), List.mem_of_getElem? (i := 623) (by decide +kernel)⟩
theorem lw_p13 : lw_okq (⟨"BlendRowsModel", "put", "(IIIII)V"⟩, 23) := ⟨⟨by decide +kernel, by decide +kernel⟩, List.mem_of_getElem? (i := 503) (by decide +kernel), List.mem_of_getElem? (i := 626) (by decide +kernel), List.mem_of_getElem? (i := 627) (by decide +kernel)⟩
theorem lw_p14 : lw_okq (⟨"BlendRowsModel", "mix", "(I)V"⟩, 23) := ⟨⟨by decide +kernel, by decide +kernel⟩, List.mem_of_getElem? (i := 503) (by decide +kernel), List.mem_of_getElem? (i := 630) (by decide +kernel), List.mem_of_getElem? (i := 631) (by decide +kernel)⟩
theorem lw_p15 : lw_okq (⟨"BlendRowsModel", "copy", "([I)V"⟩, 23) := ⟨⟨by decide +kernel, by decide +kernel⟩, List.mem_of_getElem? (i := 503) (by decide +kernel), List.mem_of_getElem? (i := 649) (by decide +kernel), List.mem_of_getElem? (i := 650) (by decide +kernel)⟩
def lw_privs_1 : List (MethodName × Nat) := [(⟨"java/lang/Throwable", "fillInStackTrace", "(I)Ljava/lang/Throwable;"⟩, 6), (⟨"BlendRows", "hereIsFlat", "()Z"⟩, 13), (⟨"BlendRows", "here", "()LBlendRows$Layer;"⟩, 13), (⟨"BlendRows", "needGroup", "()V"⟩, 13), (⟨"BlendRows", "leave", "()LBlendRows$Layer;"⟩, 13), (⟨"BlendRows$Layer", "resultBand", "(II)I"⟩, 7), (⟨"BlendRows", "leftByMask", "(II)I"⟩, 13), (⟨"BlendRows", "needPoint", "(II)V"⟩, 13), (⟨"BlendRowsModel", "alphaOf", "(II)I"⟩, 23), (⟨"BlendRowsModel", "leave", "()I"⟩, 23), (⟨"BlendRowsModel", "pointAt", "(II)I"⟩, 23), (⟨"BlendRowsModel", "result", "(II)V"⟩, 23), (⟨"BlendRowsModel", "leaves", "(II)I"⟩, 23), (⟨"BlendRowsModel", "put", "(IIIII)V"⟩, 23), (⟨"BlendRowsModel", "mix", "(I)V"⟩, 23), (⟨"BlendRowsModel", "copy", "([I)V"⟩, 23)]
theorem lw_r1 : ∀ q ∈ lw_privs_1, lw_okq q := List.forall_mem_cons.mpr ⟨lw_p0, List.forall_mem_cons.mpr ⟨lw_p1, List.forall_mem_cons.mpr ⟨lw_p2, List.forall_mem_cons.mpr ⟨lw_p3, List.forall_mem_cons.mpr ⟨lw_p4, List.forall_mem_cons.mpr ⟨lw_p5, List.forall_mem_cons.mpr ⟨lw_p6, List.forall_mem_cons.mpr ⟨lw_p7, List.forall_mem_cons.mpr ⟨lw_p8, List.forall_mem_cons.mpr ⟨lw_p9, List.forall_mem_cons.mpr ⟨lw_p10, List.forall_mem_cons.mpr ⟨lw_p11, List.forall_mem_cons.mpr ⟨lw_p12, List.forall_mem_cons.mpr ⟨lw_p13, List.forall_mem_cons.mpr ⟨lw_p14, List.forall_mem_cons.mpr ⟨lw_p15, fun _ h => absurd h List.not_mem_nil⟩⟩⟩⟩⟩⟩⟩⟩⟩⟩⟩⟩⟩⟩⟩⟩
theorem lw_p16 : lw_okq (⟨"BlendRowsModel", "setSat", "(I)V"⟩, 23) := ⟨⟨by decide +kernel, by decide +kernel⟩, List.mem_of_getElem? (i := 503) (by decide +kernel), List.mem_of_getElem? (i := 662) (by decide +kernel), List.mem_of_getElem? (i := 663) (by decide +kernel)⟩
theorem lw_p17 : lw_okq (⟨"BlendRowsModel", "setLum", "(I)V"⟩, 23) := ⟨⟨by decide +kernel, by decide +kernel⟩, List.mem_of_getElem? (i := 503) (by decide +kernel), List.mem_of_getElem? (i := 672) (by decide +kernel), List.mem_of_getElem? (i := 673) (by decide +kernel)⟩
theorem lw_p18 : lw_okq (⟨"BlendRowsModel", "isPoint", "(II)Z"⟩, 23) := ⟨⟨by decide +kernel, by decide +kernel⟩, List.mem_of_getElem? (i := 503) (by decide +kernel), List.mem_of_getElem? (i := 699) (by decide +kernel), List.mem_of_getElem? (i := 700) (by decide +kernel)⟩
theorem lw_p19 : lw_okq (⟨"BlendRowsModel", "here", "()I"⟩, 23) := ⟨⟨by decide +kernel, by decide +kernel⟩, List.mem_of_getElem? (i := 503) (by decide +kernel), List.mem_of_getElem? (i := 711) (by decide +kernel), List.mem_of_getElem? (i := 712) (by decide +kernel)⟩
def lw_privs_2 : List (MethodName × Nat) := [(⟨"BlendRowsModel", "setSat", "(I)V"⟩, 23), (⟨"BlendRowsModel", "setLum", "(I)V"⟩, 23), (⟨"BlendRowsModel", "isPoint", "(II)Z"⟩, 23), (⟨"BlendRowsModel", "here", "()I"⟩, 23)]
theorem lw_r2 : ∀ q ∈ lw_privs_2, lw_okq q := List.forall_mem_cons.mpr ⟨lw_p16, List.forall_mem_cons.mpr ⟨lw_p17, List.forall_mem_cons.mpr ⟨lw_p18, List.forall_mem_cons.mpr ⟨lw_p19, fun _ h => absurd h List.not_mem_nil⟩⟩⟩⟩
def lw_privs : List (MethodName × Nat) := lw_privs_1 ++ (lw_privs_2)
def lw_tbl : List Cond := k2_sels lw_privs ++ tables_1
theorem lw_privs_ok : ∀ q ∈ lw_privs, lw_okq q := by
  show ∀ q ∈ lw_privs_1 ++ (lw_privs_2), lw_okq q
  exact List.forall_mem_append.mpr ⟨lw_r1, lw_r2⟩
end
section
/-! ===== BEGIN words of one list among another's, by their places ===== -/
theorem goodIn_r {big : List Cond} (ws : List Cond) (ps : List Nat) (hp : ws = ps.filterMap (fun i => big[i]?)) (h : ws.all goodWord = true) : GoodIn big ws := by
  intro w hw
  have h1 := List.all_eq_true.mp h w hw
  rw [hp] at hw
  obtain ⟨i, -, hi⟩ := List.mem_filterMap.mp hw
  have hm : w ∈ big := by first | exact List.mem_of_getElem? hi | exact List.getElem?_mem hi
  exact ⟨hm, good_of_word h1⟩
theorem goodIn_app {big a b : List Cond} (ha : GoodIn big a) (hb : GoodIn big b) : GoodIn big (a ++ b) := fun w h => (List.mem_append.mp h).elim (ha w) (hb w)
theorem goodIn_ca {big a b : List Cond} {c : Cond} (ha : GoodIn big (c :: a)) (hb : GoodIn big b) : GoodIn big (c :: (a ++ b)) := fun w h => (List.mem_cons.mp h).elim (fun e => ha w (List.mem_cons.mpr (Or.inl e))) (fun h => (List.mem_append.mp h).elim (fun h => ha w (List.mem_cons.mpr (Or.inr h))) (hb w))
theorem goodIn_sub {big ws : List Cond} (hm : ∀ w ∈ ws, w ∈ big) (h : ws.all goodWord = true) : GoodIn big ws := fun w hw => ⟨hm w hw, good_of_word (List.all_eq_true.mp h w hw)⟩
/-! ===== END ===== -/

/-! ===== BEGIN exceptions that leave a method, and their catching by the caller (launches without stack traces) ===== -/
section VXA
/-! The laws vx_back, vx_callV, vx_callS, vx_callSW, vx_throw0, vx_throwS follow proofs of the library, with one case more: JvmDerived/Free/Laws.lean (Back.of_free), Shelf42/LK1.lean (callV, callS), Shelf/KitTraced.lean (throwNew0V, throwNewS). -/
/-- where a method has thrown q: the class by its name, the cell, what was written, the world -/
def vx_T (XC : String → State → State → Prop) (st : State) (q : Addr) (t : State) (mc ms : Nat) (free : Addr → Prop) : Prop :=
  ∃ (E : String) (ce : Cell) (L : List Loc), XC E st t ∧ t.heap[q]? = some ce ∧ ce.vm = .none ∧ st.vm.findClass E = some ce.cls ∧ st.WarmedH t.vm ∧ st.sameButNew ({ t with vm := st.vm } : State) L mc ms ∧ ∀ z ∈ L, free z.base
def vx_Q (Qc : Array Value → State → Outcome → State → Prop) (XC : String → State → State → Prop) (mc ms : Nat) (free : Addr → Prop) : Array Value → State → Outcome → State → Prop := fun a st o t =>
  (Qc a st o t ∧ ∃ L, FrameEnd st o t L mc ms ∧ ∀ q ∈ L, free q.base) ∨ ∃ q, o = .threw q ∧ vx_T XC st q t mc ms free
/-- a callee that returns or throws -/
def vx_Met (l : Launch) (y : MethodName) (ws : List Cond) (rm : Room) (Pc : Array Value → State → Prop) (Qc : Array Value → State → Outcome → State → Prop) (XC : String → State → State → Prop) (mc ms : Nat) (free : Addr → Prop) : Prop :=
  MetFree l y (headSpec ws rm) Pc (fun _ _ _ _ _ => True) (vx_Q Qc XC mc ms free)
def vx_Post (XC : String → State → State → Prop) (mc ms : Nat) (free : Addr → Prop) : Pt → Array Value → Addr → Pt → Prop := fun A a q B =>
  ∃ (g : JFrame) (mk : MethodId) (t : State) (L : List Loc) (E : String) (ce : Cell), B.U.heap = t.heap ∧ B.U.vm = t.vm ∧ XC E (A.U.calling g mk a) t ∧ t.heap[q]? = some ce ∧ ce.vm = .none ∧ A.U.vm.findClass E = some ce.cls ∧ B.locs = A.locs ++ L ∧ (∀ z ∈ L, free z.base) ∧ B.cells = A.cells + mc ∧ B.slots = A.slots + ms
def vx_Back (l : Launch) (R : Room) (p : Program) (e : Env) (below : List Frame) (s : State) (sargs : Array Value) (y : MethodName) (len W9 : Nat)
    (Pre : Pt → Array Value → Prop) (Post : Pt → Array Value → Option Value → Pt → Prop) (PostX : Pt → Array Value → Addr → Pt → Prop) : Prop :=
  ∀ (m : MethodId) (meth : Method) (c : Code) (A : Pt) (g : JFrame) (ig : Instr) (mk : MethodId) (a : Array Value),
    Stand p l e R s m sargs below meth c A.U A.locs A.cells A.slots → g.method = m → g.locals.size = c.maxLocals → decode c.code g.pc = .ok (ig, len) →
    2 * g.monitorRoom + (g.stack.map fun v => v.category).sum ≤ W9 → A.U.methodNamed? y = some mk → Pre A a →
    (∃ (v : Option Value) (B : Pt), Stand p l e R s m sargs below meth c B.U B.locs B.cells B.slots ∧ Post A a v B ∧
      Steps p.tables e below (doInvoke e (A.U.setTop g) [] mk a).1 (B.U.setTop { g with pc := g.pc + len, stack := v.toList ++ g.stack })) ∨
    (∃ (q : Addr) (B : Pt), Stand p l e R s m sargs below meth c B.U B.locs B.cells B.slots ∧ PostX A a q B ∧
      Steps p.tables e below (doInvoke e (A.U.setTop g) [] mk a).1 ((B.U.setTop g).pushFrame (.throwing q)))
section Payer
variable {l : Launch} {R : Room} {p : Program} {e : Env} {below : List Frame} {s : State} {sargs : Array Value} {y : MethodName} {len W9 : Nat}
theorem vx_back {ws : List Cond} {rm : Room} {Pc : Array Value → State → Prop} {Qc : Array Value → State → Outcome → State → Prop} {XC : String → State → State → Prop} {mc ms : Nat} {free : Addr → Prop} {bytes : ByteArray} {maxL : Nat} {ret : Option FieldType}
    (hM : vx_Met l y ws rm Pc Qc XC mc ms free) (hblind : FrameBlind Pc) (hrc : rm.cells = mc) (hrs : rm.slots = ms)
    (hframes : rm.frames + 1 ≤ R.frames) (hlocals : W9 + (maxL + 11) + rm.locals ≤ R.locals)
    (hws : ∀ w ∈ ws, ∀ a' U, s.WarmedH U.vm → w.before a' U = true) (hcode : Cond.code y bytes maxL ret ∈ ws) (hinit : ∀ a' U, s.WarmedH U.vm → (Cond.initialized y.cls).before a' U = true) :
    vx_Back l R p e below s sargs y len W9 (PreOf R mc ms Pc) (PostOf Qc mc ms free) (vx_Post XC mc ms free) := by
  intro m meth c A g ig mk a X hg hsize hdg hW hn hp
  have h1 : (headSpec ws rm).pre.before a A.U = true := atoms_intro fun w hw => hws w hw _ _ X.warmed
  have h2 : (Cond.code y bytes maxL ret).before a A.U = true := hws _ hcode _ _ X.warmed
  have h3 : (Cond.initialized y.cls).before a A.U = true := hinit _ _ X.warmed
  have h4 : A.cells + (headSpec ws rm).room.cells ≤ R.cells := by rw [show (headSpec ws rm).room.cells = mc from hrc]; exact hp.1
  have h5 : A.slots + (headSpec ws rm).room.slots ≤ R.slots := by rw [show (headSpec ws rm).room.slots = ms from hrs]; exact hp.2.1
  have hPc : Pc a (A.U.calling g mk a) := hblind _ _ _ _ hp.2.2
  obtain ⟨U, Ls, c0, s0⟩ := A
  dsimp only [Pt.U, Pt.locs, Pt.cells, Pt.slots] at h1 h2 h3 h4 h5 X hn hPc ⊢
  obtain ⟨methY, cY, hmY, hcY, -, hlY, -, -, -, -⟩ := Cond.code_spec hn h2
  obtain ⟨kY, hkY, -⟩ := className_of_methodNamed hn
  have hinitY : kY.init = .initialized := Cond.initialized_spec (findClass_of_methodNamed hn) hkY h3
  have h : At U g.method c below := by rw [hg]; exact X.here
  have hlocals9 : W9 + (maxL + 11) + (headSpec ws rm).room.locals ≤ R.locals := hlocals
  have happ : (headSpec ws rm).appliesLoose y e.platform (U.calling g mk a) = true :=
    Spec.appliesLoose_calling (g := g) h hdg hn hkY hinitY
      (X.room_calling (g := g) (R' := (headSpec ws rm).room) hsize hmY hcY hframes (by rw [hlY]; omega) h4 h5) h1
  obtain ⟨mid, hmid⟩ := h.above
  have hfr : (U.setTop g).frames = (.java g :: mid) ++ below := by rw [State.frames_setTop' g h.top, hmid]; rfl
  obtain ⟨o, s₂, hsteps, -, hend, hq⟩ := Steps.callFree hM p X.admits X.cas X.clock (acts := []) hfr happ hPc trivial
  have hq' : vx_Q Qc XC mc ms free a (U.calling g mk a) o s₂ := hq
  rw [State.frames_setTop' g h.top] at hend
  obtain ⟨g₀, hg0⟩ := Option.isSome_iff_exists.mp h.top
  obtain ⟨r, hr⟩ := State.topJava?_eq_some.mp hg0
  have hr' : (({ U with heap := s₂.heap, slotsUsed := s₂.slotsUsed } : State).setVm s₂.vm).frames = .java g₀ :: r := hr
  rcases hq' with ⟨hqc, L, hfe, hL⟩ | ⟨q, rfl, E, ce, L, hx, hce, hcv, hcl, hW₂, hsm, hL⟩
  · obtain ⟨⟨v, rfl⟩, hW₂, e2, q2, q3, q4, q5, q6⟩ := id hfe
    have e3 : s₂ = ({ (U.calling g mk a).setFrames s₂.frames with heap := s₂.heap, slotsUsed := s₂.slotsUsed } : State).setVm s₂.vm := by
      have : s₂ = ({ s₂ with vm := (U.calling g mk a).vm } : State).setVm s₂.vm := rfl
      rw [e2] at this
      exact this
    obtain ⟨c₂, i₂, len₂, hc₂, hd₂, hf₂⟩ := hend
    have hW' : U.WarmedH s₂.vm := hW₂
    have hcc : c₂ = c := by
      have h1 : s₂.code? g.method = U.code? g.method := by
        rw [State.code?_eq, State.code?_eq, hW'.alike.method?]
      exact Option.some.inj (hc₂.symm.trans (h1.trans h.code))
    subst hcc
    have hlen : len₂ = len := by rw [hdg] at hd₂; cases hd₂; rfl
    subst hlen
    have hs₂ : s₂ = (({ U with heap := s₂.heap, slotsUsed := s₂.slotsUsed } : State).setVm s₂.vm).setTop { g with pc := g.pc + len₂, stack := v.toList ++ g.stack } := by
      refine e3.trans ?_
      rw [hf₂, State.calling_eq h.top, State.setFrames_setFrames, State.setTop_of_frames _ hr', hr]
      rfl
    have hsame : U.sameButNew ({ U with heap := s₂.heap, slotsUsed := s₂.slotsUsed } : State) L mc ms := by
      refine ⟨?_, q2, q3, q4, q5, q6⟩
      obtain ⟨t, ht, -⟩ := State.frames_cons hr
      show ({ U with heap := s₂.heap, slotsUsed := s₂.slotsUsed } : State) = { U.setFrames U.frames with heap := s₂.heap, slotsUsed := s₂.slotsUsed }
      rw [State.setFrames_self ht]
    subst hg
    refine Or.inl ⟨v, ⟨(({ U with heap := s₂.heap, slotsUsed := s₂.slotsUsed } : State).setVm s₂.vm), Ls ++ L, c0 + mc, s0 + ms⟩,
      ⟨X.admits, X.cas, X.clock, X.frames, X.room, X.hears, X.method, X.code, (X.here.setHeapUsed s₂.heap s₂.slotsUsed).setVm hW'.alike, X.tail, State.WarmedH.trans X.warmed hW', X.limits, X.bytes, X.same.trans (hsame.setVm s.vm)⟩,
      ⟨g, mk, s₂, L, rfl, rfl, hqc, rfl, hL, rfl, rfl⟩, ?_⟩
    show Steps p.tables e below _ ((({ U with heap := s₂.heap, slotsUsed := s₂.slotsUsed } : State).setVm s₂.vm).setTop { g with pc := g.pc + len₂, stack := v.toList ++ g.stack })
    rw [← hs₂]
    exact hsteps
  · obtain ⟨e2, q2, q3, q4, q5, q6⟩ := id hsm
    have e3 : s₂ = ({ (U.calling g mk a).setFrames s₂.frames with heap := s₂.heap, slotsUsed := s₂.slotsUsed } : State).setVm s₂.vm := by
      have : s₂ = ({ s₂ with vm := (U.calling g mk a).vm } : State).setVm s₂.vm := rfl
      rw [e2] at this
      exact this
    have hf₂ : s₂.frames = .throwing q :: .java g :: U.frames.tail := hend
    have hW' : U.WarmedH s₂.vm := hW₂
    have hs₂ : s₂ = ((({ U with heap := s₂.heap, slotsUsed := s₂.slotsUsed } : State).setVm s₂.vm).setTop g).pushFrame (.throwing q) := by
      refine e3.trans ?_
      rw [hf₂, State.calling_eq h.top, State.setFrames_setFrames, State.pushFrame, State.frames_setTop _ hr', State.setTop_of_frames _ hr', State.setFrames_setFrames, hr]
      rfl
    have hsame : U.sameButNew ({ U with heap := s₂.heap, slotsUsed := s₂.slotsUsed } : State) L mc ms := by
      refine ⟨?_, q2, q3, q4, q5, q6⟩
      obtain ⟨t, ht, -⟩ := State.frames_cons hr
      show ({ U with heap := s₂.heap, slotsUsed := s₂.slotsUsed } : State) = { U.setFrames U.frames with heap := s₂.heap, slotsUsed := s₂.slotsUsed }
      rw [State.setFrames_self ht]
    subst hg
    refine Or.inr ⟨q, ⟨(({ U with heap := s₂.heap, slotsUsed := s₂.slotsUsed } : State).setVm s₂.vm), Ls ++ L, c0 + mc, s0 + ms⟩,
      ⟨X.admits, X.cas, X.clock, X.frames, X.room, X.hears, X.method, X.code, (X.here.setHeapUsed s₂.heap s₂.slotsUsed).setVm hW'.alike, X.tail, State.WarmedH.trans X.warmed hW', X.limits, X.bytes, X.same.trans (hsame.setVm s.vm)⟩,
      ⟨g, mk, s₂, L, E, ce, rfl, rfl, hx, hce, hcv, hcl, rfl, hL, rfl, rfl⟩, ?_⟩
    show Steps p.tables e below _ (((({ U with heap := s₂.heap, slotsUsed := s₂.slotsUsed } : State).setVm s₂.vm).setTop g).pushFrame (.throwing q))
    rw [← hs₂]
    exact hsteps
end Payer
section Calls
variable {p : Program} {l : Launch} {e : Env} {R : Room} {s : State} {m : MethodId} {args : Array Value} {below : List Frame} {meth : Method} {c : Code} {T : State} {locs : List Loc} {cells slots : Nat}
theorem vx_callV (X : Stand p l e R s m args below meth c T locs cells slots) (hexec : p.tables.exec = Jvm.exec) {own C : String} {index : Nat} {y : MethodName} {bytes : ByteArray} {maxL : Nat} {ret : Option FieldType}
    (hown : s.vm.findClass own = some m.cls) (hlink : (Cond.methodLink own index y).before args s = true) (hinst : (Cond.instanceMethod y).before args s = true) (hsel : (Cond.selects C y y).before args s = true)
    (hcode : (Cond.code y bytes maxL ret).before args s = true) (hy : y.cls ≠ "java/lang/invoke/MethodHandle" ∧ y.cls ≠ "java/lang/invoke/VarHandle")
    {W9 : Nat} {Pre : Pt → Array Value → Prop} {Post : Pt → Array Value → Option Value → Pt → Prop} {PostX : Pt → Array Value → Addr → Pt → Prop} (hK : vx_Back l R p e below s args y 3 W9 Pre Post PostX)
    {b : Addr} {cellB : Cell} (hcell : T.heap[b]? = some cellB) (hobj : cellB.vm.isStatics = false) (hcls : s.vm.findClass C = some cellB.cls)
    {g : JFrame} (hg : g.method = m) (hsize : g.locals.size = c.maxLocals) {argsL rest : List Value} (hlen : ∀ sig, parseMethodDescriptor y.desc = some sig → argsL.length = sig.parameters.length)
    (hstack : g.stack = argsL.reverse ++ .ref b :: rest) (hW : 2 * g.monitorRoom + (rest.map fun v => v.category).sum ≤ W9) (hdg : decode c.code g.pc = .ok (.invokevirtual index, 3))
    (hpre : ∀ vm₁, s.WarmedH vm₁ → Pre ⟨T.setVm vm₁, locs, cells, slots⟩ (Value.ref b :: argsL).toArray) :
    (∃ (v : Option Value) (vm₁ : Vm) (B : Pt), s.WarmedH vm₁ ∧ Stand p l e R s m args below meth c B.U B.locs B.cells B.slots ∧ Post ⟨T.setVm vm₁, locs, cells, slots⟩ (Value.ref b :: argsL).toArray v B ∧
      ∀ target, Steps p.tables e below (B.U.setTop { g with pc := g.pc + 3, stack := v.toList ++ rest }) target → Steps p.tables e below (T.setTop g) target) ∨
    (∃ (q : Addr) (vm₁ : Vm) (B : Pt), s.WarmedH vm₁ ∧ Stand p l e R s m args below meth c B.U B.locs B.cells B.slots ∧ PostX ⟨T.setVm vm₁, locs, cells, slots⟩ (Value.ref b :: argsL).toArray q B ∧
      Steps p.tables e below (T.setTop g) ((B.U.setTop { g with stack := rest }).pushFrame (.throwing q))) := by
  obtain ⟨mk, methM, hnamed, hmethM, hstM, habM⟩ := Cond.instanceMethod_spec hinst
  obtain ⟨methM', cM, hmethM', -, -, -, -, -, -, hsigM⟩ := Cond.code_spec hnamed hcode
  cases hmethM.symm.trans hmethM'
  obtain ⟨c2, r2, m2, q1, q2, q3, q4, kP, hkP, hkPi⟩ := Cond.selects_spec hsel
  cases hcls.symm.trans q1
  cases (State.methodFound?_of_named hnamed hy).symm.trans q2
  cases hnamed.symm.trans q3
  have hselP : selectMethod e.platform s.vm cellB.cls mk = .method mk := by rw [Launch.admits_selectMethod X.admits]; exact q4
  obtain ⟨vm₁, X₁, hstep₁⟩ := X.invokevirtual hexec hown hlink hnamed hmethM hstM hkP hkPi hy (a := b) (cell := cellB) hcell
    (fun z h => by rw [h] at hobj; cases hobj) hselP hmethM habM hkP hkPi (g := g) hg (argsL := argsL) (rest := rest) (hlen _ hsigM) hstack hdg
  rcases hK m meth c ⟨T.setVm vm₁, locs, cells, slots⟩ { g with stack := rest } (.invokevirtual index) mk (Value.ref b :: argsL).toArray X₁ hg hsize hdg hW (X₁.named hnamed) (hpre vm₁ X₁.warmed) with ⟨v, B, X', hpost, hsteps⟩ | ⟨q, B, X', hpost, hsteps⟩
  · exact Or.inl ⟨v, vm₁, B, X₁.warmed, X', hpost, fun target h => hstep₁ _ fun acts => by rw [doInvoke_state]; exact hsteps.trans h⟩
  · exact Or.inr ⟨q, vm₁, B, X₁.warmed, X', hpost, hstep₁ _ fun acts => by rw [doInvoke_state]; exact hsteps⟩
theorem vx_callS (X : Stand p l e R s m args below meth c T locs cells slots) (hexec : p.tables.exec = Jvm.exec) {own : String} {index : Nat} {y : MethodName} {bytes : ByteArray} {maxL : Nat} {ret : Option FieldType}
    (hown : s.vm.findClass own = some m.cls) (hlink : (Cond.methodLink own index y).before args s = true) (hstat : (Cond.static y).before args s = true) (hinit : (Cond.initialized y.cls).before args s = true)
    (hcode : (Cond.code y bytes maxL ret).before args s = true) (hy : y.cls ≠ "java/lang/invoke/MethodHandle" ∧ y.cls ≠ "java/lang/invoke/VarHandle")
    {W9 : Nat} {Pre : Pt → Array Value → Prop} {Post : Pt → Array Value → Option Value → Pt → Prop} {PostX : Pt → Array Value → Addr → Pt → Prop} (hK : vx_Back l R p e below s args y 3 W9 Pre Post PostX)
    {g : JFrame} (hg : g.method = m) (hsize : g.locals.size = c.maxLocals) {argsL rest : List Value} (hlen : ∀ sig, parseMethodDescriptor y.desc = some sig → argsL.length = sig.parameters.length)
    (hstack : g.stack = argsL.reverse ++ rest) (hW : 2 * g.monitorRoom + (rest.map fun v => v.category).sum ≤ W9) (hdg : decode c.code g.pc = .ok (.invokestatic index, 3))
    (hpre : ∀ vm₁, s.WarmedH vm₁ → Pre ⟨T.setVm vm₁, locs, cells, slots⟩ argsL.toArray) :
    (∃ (v : Option Value) (vm₁ : Vm) (B : Pt), s.WarmedH vm₁ ∧ Stand p l e R s m args below meth c B.U B.locs B.cells B.slots ∧ Post ⟨T.setVm vm₁, locs, cells, slots⟩ argsL.toArray v B ∧
      ∀ target, Steps p.tables e below (B.U.setTop { g with pc := g.pc + 3, stack := v.toList ++ rest }) target → Steps p.tables e below (T.setTop g) target) ∨
    (∃ (q : Addr) (vm₁ : Vm) (B : Pt), s.WarmedH vm₁ ∧ Stand p l e R s m args below meth c B.U B.locs B.cells B.slots ∧ PostX ⟨T.setVm vm₁, locs, cells, slots⟩ argsL.toArray q B ∧
      Steps p.tables e below (T.setTop g) ((B.U.setTop { g with stack := rest }).pushFrame (.throwing q))) := by
  obtain ⟨mk, hnamed⟩ := Cond.code_named hcode
  obtain ⟨methM, cM, hmethM, -, -, -, -, -, -, hsigM⟩ := Cond.code_spec hnamed hcode
  have hstatic : methM.isStatic = true := Cond.static_spec hnamed hmethM hstat
  obtain ⟨kP, hkP, -⟩ := className_of_methodNamed hnamed
  have hinitP : kP.init = .initialized := Cond.initialized_spec (findClass_of_methodNamed hnamed) hkP hinit
  obtain ⟨vm₁, X₁, hstep₁⟩ := X.invokestatic hexec hown hlink hnamed hmethM hstatic hkP hinitP hy (g := g) hg (argsL := argsL) (rest := rest) (hlen _ hsigM) hstack hdg
  rcases hK m meth c ⟨T.setVm vm₁, locs, cells, slots⟩ { g with stack := rest } (.invokestatic index) mk argsL.toArray X₁ hg hsize hdg hW (X₁.named hnamed) (hpre vm₁ X₁.warmed) with ⟨v, B, X', hpost, hsteps⟩ | ⟨q, B, X', hpost, hsteps⟩
  · exact Or.inl ⟨v, vm₁, B, X₁.warmed, X', hpost, fun target h => hstep₁ _ fun acts => by rw [doInvoke_state]; exact hsteps.trans h⟩
  · exact Or.inr ⟨q, vm₁, B, X₁.warmed, X', hpost, hstep₁ _ fun acts => by rw [doInvoke_state]; exact hsteps⟩
end Calls
theorem vx_cls {s : State} {T : State} {vm₁ : Vm} {E : String} {k : ClassId} (hW : s.WarmedH vm₁) (h : (T.setVm vm₁).vm.findClass E = some k) : s.vm.findClass E = some k := by
  have h1 : vm₁.findClass E = some k := h
  rw [hW.alike.findClass] at h1
  exact h1
/-- the method's frame g, with q thrown over it -/
def vx_W (p : Program) (l : Launch) (e : Env) (R : Room) (s : State) (m : MethodId) (args : Array Value) (below : List Frame) (meth : Method) (c : Code) (H : Heap) (locs : List Loc) (cells slots : Nat) (Q : State → Prop) (g : JFrame) (q : Addr) : Prop :=
  ∀ T : State, T.heap = H → Stand p l e R s m args below meth c T locs cells slots → ∃ t, Steps p.tables e below ((T.setTop g).pushFrame (.throwing q)) t ∧ Q t
def vx_Run (p : Program) (l : Launch) (e : Env) (R : Room) (s : State) (m : MethodId) (args : Array Value) (below : List Frame) (meth : Method) (c : Code) (H : Heap) (locs : List Loc) (cells slots mc ms : Nat) (g : JFrame) (rest : List Value) (Qa : State → Outcome → State → Prop) (XC : String → State → State → Prop) (free : Addr → Prop) : Prop :=
  ∀ T : State, T.heap = H → Stand p l e R s m args below meth c T locs cells slots →
    (∃ (v : Option Value) (st₀ t T' : State) (L : List Loc), st₀.heap = H ∧ Stand p l e R s m args below meth c T' (locs ++ L) (cells + mc) (slots + ms) ∧ (∀ q ∈ L, free q.base) ∧ T'.heap = t.heap ∧ T'.vm = t.vm ∧ Qa st₀ (.returned v) t ∧
      Goes p e below T g T' { g with pc := g.pc + 3, stack := v.toList ++ rest }) ∨
    (∃ (q : Addr) (st₀ t T' : State) (L : List Loc) (E : String) (ce : Cell), st₀.heap = H ∧ Stand p l e R s m args below meth c T' (locs ++ L) (cells + mc) (slots + ms) ∧ (∀ z ∈ L, free z.base) ∧ T'.heap = t.heap ∧ T'.vm = t.vm ∧ XC E st₀ t ∧ t.heap[q]? = some ce ∧ ce.vm = .none ∧ s.vm.findClass E = some ce.cls ∧
      Steps p.tables e below (T.setTop g) ((T'.setTop { g with stack := rest }).pushFrame (.throwing q)))
def vx_X {S : Type} (px : S → Prop) (B : String → S → State → Prop) (A : Nat → Prop) : String → State → State → Prop := fun E st t => ∃ u : S, px u ∧ B E u t ∧ va_F A st t
section Runs
variable {p : Program} {l : Launch} {e : Env} {R : Room} {s : State} {m : MethodId} {args : Array Value} {below : List Frame} {meth : Method} {c : Code} {H : Heap} {locs : List Loc} {cells slots : Nat}
variable {y : MethodName} {bytes cc : ByteArray} {maxL nL mc ms n index : Nat} {ret : Option FieldType} {ws : List Cond} {rm : Room} {Pc : Array Value → State → Prop} {Qc : Array Value → State → Outcome → State → Prop} {XC : String → State → State → Prop} {free : Addr → Prop} {Ts : List Cond} {own C : String} {b : Addr} {As rest : List Value} {g : JFrame}
theorem vx_callBack (cb : CallB R s args own index y bytes maxL ret ws rm mc ms n) (hM : vx_Met l y ws rm Pc Qc XC mc ms free) (hbl : FrameBlind Pc) : vx_Back l R p e below s args y 3 8 (PreOf R mc ms Pc) (PostOf Qc mc ms free) (vx_Post XC mc ms free) := by
  obtain ⟨hrc, hrs, hfr, hlo, hws, hcw, -, hini, -⟩ := cb
  exact vx_back (bytes := bytes) (maxL := maxL) (ret := ret) hM hbl hrc hrs hfr hlo hws hcw (fun a' U hW => word_at hW (Or.inl (by first | rfl | simp [Cond.onTables, Cond.keeps, Cond.steady])) hini)
theorem vx_runV (S : CallFix p m c cc nL s args Ts own) (hM : vx_Met l y ws rm Pc Qc XC mc ms free) (cw : CallW R s args own C index y bytes maxL ret ws rm mc ms n) (hp : PreV s H C b Pc As)
    (hg : g.method = m) (hn : As.length = n) (hsize : g.locals.size = nL) (hstack : g.stack = As.reverse ++ .ref b :: rest) (hW : 2 * g.monitorRoom + (rest.map fun v => v.category).sum ≤ 8) (hdg : decode cc g.pc = .ok (.invokevirtual index, 3)) (hf : cells + mc ≤ R.cells ∧ slots + ms ≤ R.slots) :
    vx_Run p l e R s m args below meth c H locs cells slots mc ms g rest (Qc (Value.ref b :: As).toArray) XC free := by
  have hK : vx_Back l R p e below s args y 3 8 (PreOf R mc ms Pc) (PostOf Qc mc ms free) (vx_Post XC mc ms free) := vx_callBack cw.1 hM hp.1
  obtain ⟨⟨-, -, -, -, -, -, hcode, -, hy, hlen, hl⟩, hin, hse⟩ := cw
  obtain ⟨hx, hb, hml, ho, -⟩ := S
  obtain ⟨-, ⟨cellB, hcB, hoB, hclB⟩, hPc⟩ := hp
  intro T hT X
  rcases vx_callV X hx (C := C) (bytes := bytes) (maxL := maxL) (ret := ret) ho hl hin hse hcode hy hK (by rw [hT]; exact hcB) hoB hclB hg (hsize.trans hml.symm) (argsL := As) (rest := rest) (fun sig h => hn.trans (hlen sig h)) hstack hW (by rw [hb]; exact hdg)
    (fun vm₁ hW₁ => ⟨hf.1, hf.2, hPc (T.setVm vm₁) hT hW₁⟩) with ⟨v, vm₁, ⟨U', l2, c2, s2⟩, hW₁, X', ⟨g', mk, t, L, e1, e2, hq, h1, hL, h2, h3⟩, st⟩ | ⟨q, vm₁, ⟨U', l2, c2, s2⟩, hW₁, X', ⟨g', mk, t, L, E, ce, e1, e2, hq, hce, hcv, hcl, h1, hL, h2, h3⟩, st⟩
  · dsimp only [Pt.U, Pt.locs, Pt.cells, Pt.slots] at X' e1 e2 h1 h2 h3 st
    subst h1; subst h2; subst h3
    exact Or.inl ⟨v, (T.setVm vm₁).calling g' mk (Value.ref b :: As).toArray, t, U', L, hT, X', hL, e1, e2, hq, st⟩
  · dsimp only [Pt.U, Pt.locs, Pt.cells, Pt.slots] at X' e1 e2 h1 h2 h3 st hcl
    subst h1; subst h2; subst h3
    exact Or.inr ⟨q, (T.setVm vm₁).calling g' mk (Value.ref b :: As).toArray, t, U', L, E, ce, hT, X', hL, e1, e2, hq, hce, hcv, vx_cls hW₁ hcl, st⟩
theorem vx_runS (S : CallFix p m c cc nL s args Ts own) (hM : vx_Met l y ws rm Pc Qc XC mc ms free) (cw : CallB R s args own index y bytes maxL ret ws rm mc ms n ∧ (Cond.static y).before args s = true) (hp : PreS s H Pc As)
    (hg : g.method = m) (hn : As.length = n) (hsize : g.locals.size = nL) (hstack : g.stack = As.reverse ++ rest) (hW : 2 * g.monitorRoom + (rest.map fun v => v.category).sum ≤ 8) (hdg : decode cc g.pc = .ok (.invokestatic index, 3)) (hf : cells + mc ≤ R.cells ∧ slots + ms ≤ R.slots) :
    vx_Run p l e R s m args below meth c H locs cells slots mc ms g rest (Qc As.toArray) XC free := by
  have hK : vx_Back l R p e below s args y 3 8 (PreOf R mc ms Pc) (PostOf Qc mc ms free) (vx_Post XC mc ms free) := vx_callBack cw.1 hM hp.1
  obtain ⟨⟨-, -, -, -, -, -, hcode, hini, hy, hlen, hl⟩, hstt⟩ := cw
  obtain ⟨hx, hb, hml, ho, -⟩ := S
  intro T hT X
  rcases vx_callS X hx (bytes := bytes) (maxL := maxL) (ret := ret) ho hl hstt hini hcode hy hK hg (hsize.trans hml.symm) (argsL := As) (rest := rest) (fun sig h => hn.trans (hlen sig h)) hstack hW (by rw [hb]; exact hdg)
    (fun vm₁ hW₁ => ⟨hf.1, hf.2, hp.2 (T.setVm vm₁) hT hW₁⟩) with ⟨v, vm₁, ⟨U', l2, c2, s2⟩, hW₁, X', ⟨g', mk, t, L, e1, e2, hq, h1, hL, h2, h3⟩, st⟩ | ⟨q, vm₁, ⟨U', l2, c2, s2⟩, hW₁, X', ⟨g', mk, t, L, E, ce, e1, e2, hq, hce, hcv, hcl, h1, hL, h2, h3⟩, st⟩
  · dsimp only [Pt.U, Pt.locs, Pt.cells, Pt.slots] at X' e1 e2 h1 h2 h3 st
    subst h1; subst h2; subst h3
    exact Or.inl ⟨v, (T.setVm vm₁).calling g' mk As.toArray, t, U', L, hT, X', hL, e1, e2, hq, st⟩
  · dsimp only [Pt.U, Pt.locs, Pt.cells, Pt.slots] at X' e1 e2 h1 h2 h3 st hcl
    subst h1; subst h2; subst h3
    exact Or.inr ⟨q, (T.setVm vm₁).calling g' mk As.toArray, t, U', L, E, ce, hT, X', hL, e1, e2, hq, hce, hcv, vx_cls hW₁ hcl, st⟩
end Runs
section Rows
variable {p : Program} {l : Launch} {e : Env} {R : Room} {s : State} {m : MethodId} {args : Array Value} {below : List Frame} {meth : Method} {c : Code} {H : Heap} {locs : List Loc} {cells slots : Nat} {Q : State → Prop}
variable {mc ms : Nat} {free : Addr → Prop} {A0 A1 : Nat → Prop} {H0 : Heap} {a : Array Value} {pc : Nat} {ls : Array Slot} {st0 rest : List Value}
theorem vx_keep {st₀ t T' : State} {L : List Loc} (h0 : st₀.heap = H) (e1 : T'.heap = t.heap) (hS : va_S A0 H0 H locs) (hA : ∀ q, q < H.size → A1 q → A0 q) (hf : ∀ q, free q → A0 q) (hL : ∀ q ∈ L, free q.base) (hF : va_F A1 st₀ t) :
    H.size ≤ T'.heap.size ∧ (∀ q : Nat, q < H.size → ¬ A1 q → T'.heap[q]? = H[q]?) ∧ va_S A0 H0 T'.heap (locs ++ L) := by
  obtain ⟨hz, hk⟩ := hF
  rw [h0] at hz hk
  exact ⟨by rw [e1]; exact hz, fun q h1 h2 => by rw [e1]; exact hk q h1 h2,
    ⟨Nat.le_trans hS.1 (by rw [e1]; exact hz), fun q h1 h2 => by rw [e1, hk q (Nat.lt_of_lt_of_le h1 hS.1) (fun z => h2 (hA q (Nat.lt_of_lt_of_le h1 hS.1) z))]; exact hS.2.1 q h1 h2, fun q hq => by
      rcases List.mem_append.mp hq with h | h
      · exact hS.2.2 q h
      · exact hf _ (hL q h)⟩⟩
theorem vx_calli {S SX : Type} {post : Int32 → S → Prop} {px : SX → Prop} {B : S → State → Prop} {BX : String → SX → State → Prop} {AX : Nat → Prop} (hr : vx_Run p l e R s m args below meth c H locs cells slots mc ms (F0 m pc ls st0) rest (va_Qi post B A1 a) (vx_X px BX AX) free) (hS : va_S A0 H0 H locs) (hA : ∀ q, q < H.size → A1 q → A0 q) (hf : ∀ q, free q → A0 q) (hAX : ∀ q, q < H.size → AX q → A0 q)
    (kx : ∀ (E : String) (ce : Cell) (q9 : Addr) (u : SX) (t : State) (H1 : Heap) (locs1 : List Loc), t.heap = H1 → s.vm.Alike t.vm → px u → BX E u t → H.size ≤ H1.size → (∀ q : Nat, q < H.size → ¬ AX q → H1[q]? = H[q]?) → va_S A0 H0 H1 locs1 → H1[q9]? = some ce → ce.vm = .none → s.vm.findClass E = some ce.cls → vx_W p l e R s m args below meth c H1 locs1 (cells + mc) (slots + ms) Q (F0 m pc ls rest) q9)
    (kk : ∀ (r : Int32) (u : S) (t : State) (H1 : Heap) (locs1 : List Loc), t.heap = H1 → s.vm.Alike t.vm → post r u → B u t → H.size ≤ H1.size → (∀ q : Nat, q < H.size → ¬ A1 q → H1[q]? = H[q]?) → va_S A0 H0 H1 locs1 → W p l e R s m args below meth c H1 locs1 (cells + mc) (slots + ms) Q (F0 m (pc + 3) ls (.int r :: rest))) : W p l e R s m args below meth c H locs cells slots Q (F0 m pc ls st0) := by
  intro T hT X
  rcases hr T hT X with ⟨v, st₀, t, T', L, h0, X', hL, e1, e2, ⟨⟨r, u, hv, hp, hb⟩, hF⟩, st⟩ | ⟨q, st₀, t, T', L, E, ce, h0, X', hL, e1, e2, ⟨u, hp, hb, hF⟩, hce, hcv, hcl, st⟩
  · cases hv
    obtain ⟨k1, k2, k3⟩ := vx_keep h0 e1 hS hA hf hL hF
    obtain ⟨t2, a1, b1⟩ := kk r u t T'.heap (locs ++ L) e1.symm (by rw [← e2]; exact X'.warmed.alike) hp hb k1 k2 k3 T' rfl X'
    exact ⟨t2, st t2 a1, b1⟩
  · obtain ⟨k1, k2, k3⟩ := vx_keep h0 e1 hS hAX hf hL hF
    obtain ⟨t2, a1, b1⟩ := kx E ce q u t T'.heap (locs ++ L) e1.symm (by rw [← e2]; exact X'.warmed.alike) hp hb k1 k2 k3 (by rw [e1]; exact hce) hcv hcl T' rfl X'
    exact ⟨t2, st.trans a1, b1⟩
theorem vx_calll {S SX : Type} {post : Int64 → S → Prop} {px : SX → Prop} {B : S → State → Prop} {BX : String → SX → State → Prop} {AX : Nat → Prop} (hr : vx_Run p l e R s m args below meth c H locs cells slots mc ms (F0 m pc ls st0) rest (va_Ql post B A1 a) (vx_X px BX AX) free) (hS : va_S A0 H0 H locs) (hA : ∀ q, q < H.size → A1 q → A0 q) (hf : ∀ q, free q → A0 q) (hAX : ∀ q, q < H.size → AX q → A0 q)
    (kx : ∀ (E : String) (ce : Cell) (q9 : Addr) (u : SX) (t : State) (H1 : Heap) (locs1 : List Loc), t.heap = H1 → s.vm.Alike t.vm → px u → BX E u t → H.size ≤ H1.size → (∀ q : Nat, q < H.size → ¬ AX q → H1[q]? = H[q]?) → va_S A0 H0 H1 locs1 → H1[q9]? = some ce → ce.vm = .none → s.vm.findClass E = some ce.cls → vx_W p l e R s m args below meth c H1 locs1 (cells + mc) (slots + ms) Q (F0 m pc ls rest) q9)
    (kk : ∀ (r : Int64) (u : S) (t : State) (H1 : Heap) (locs1 : List Loc), t.heap = H1 → s.vm.Alike t.vm → post r u → B u t → H.size ≤ H1.size → (∀ q : Nat, q < H.size → ¬ A1 q → H1[q]? = H[q]?) → va_S A0 H0 H1 locs1 → W p l e R s m args below meth c H1 locs1 (cells + mc) (slots + ms) Q (F0 m (pc + 3) ls (.long r :: rest))) : W p l e R s m args below meth c H locs cells slots Q (F0 m pc ls st0) := by
  intro T hT X
  rcases hr T hT X with ⟨v, st₀, t, T', L, h0, X', hL, e1, e2, ⟨⟨r, u, hv, hp, hb⟩, hF⟩, st⟩ | ⟨q, st₀, t, T', L, E, ce, h0, X', hL, e1, e2, ⟨u, hp, hb, hF⟩, hce, hcv, hcl, st⟩
  · cases hv
    obtain ⟨k1, k2, k3⟩ := vx_keep h0 e1 hS hA hf hL hF
    obtain ⟨t2, a1, b1⟩ := kk r u t T'.heap (locs ++ L) e1.symm (by rw [← e2]; exact X'.warmed.alike) hp hb k1 k2 k3 T' rfl X'
    exact ⟨t2, st t2 a1, b1⟩
  · obtain ⟨k1, k2, k3⟩ := vx_keep h0 e1 hS hAX hf hL hF
    obtain ⟨t2, a1, b1⟩ := kx E ce q u t T'.heap (locs ++ L) e1.symm (by rw [← e2]; exact X'.warmed.alike) hp hb k1 k2 k3 (by rw [e1]; exact hce) hcv hcl T' rfl X'
    exact ⟨t2, st.trans a1, b1⟩
theorem vx_callf {S SX : Type} {post : UInt32 → S → Prop} {px : SX → Prop} {B : S → State → Prop} {BX : String → SX → State → Prop} {AX : Nat → Prop} (hr : vx_Run p l e R s m args below meth c H locs cells slots mc ms (F0 m pc ls st0) rest (va_Qf post B A1 a) (vx_X px BX AX) free) (hS : va_S A0 H0 H locs) (hA : ∀ q, q < H.size → A1 q → A0 q) (hf : ∀ q, free q → A0 q) (hAX : ∀ q, q < H.size → AX q → A0 q)
    (kx : ∀ (E : String) (ce : Cell) (q9 : Addr) (u : SX) (t : State) (H1 : Heap) (locs1 : List Loc), t.heap = H1 → s.vm.Alike t.vm → px u → BX E u t → H.size ≤ H1.size → (∀ q : Nat, q < H.size → ¬ AX q → H1[q]? = H[q]?) → va_S A0 H0 H1 locs1 → H1[q9]? = some ce → ce.vm = .none → s.vm.findClass E = some ce.cls → vx_W p l e R s m args below meth c H1 locs1 (cells + mc) (slots + ms) Q (F0 m pc ls rest) q9)
    (kk : ∀ (r : UInt32) (u : S) (t : State) (H1 : Heap) (locs1 : List Loc), t.heap = H1 → s.vm.Alike t.vm → post r u → B u t → H.size ≤ H1.size → (∀ q : Nat, q < H.size → ¬ A1 q → H1[q]? = H[q]?) → va_S A0 H0 H1 locs1 → W p l e R s m args below meth c H1 locs1 (cells + mc) (slots + ms) Q (F0 m (pc + 3) ls (.float r :: rest))) : W p l e R s m args below meth c H locs cells slots Q (F0 m pc ls st0) := by
  intro T hT X
  rcases hr T hT X with ⟨v, st₀, t, T', L, h0, X', hL, e1, e2, ⟨⟨r, u, hv, hp, hb⟩, hF⟩, st⟩ | ⟨q, st₀, t, T', L, E, ce, h0, X', hL, e1, e2, ⟨u, hp, hb, hF⟩, hce, hcv, hcl, st⟩
  · cases hv
    obtain ⟨k1, k2, k3⟩ := vx_keep h0 e1 hS hA hf hL hF
    obtain ⟨t2, a1, b1⟩ := kk r u t T'.heap (locs ++ L) e1.symm (by rw [← e2]; exact X'.warmed.alike) hp hb k1 k2 k3 T' rfl X'
    exact ⟨t2, st t2 a1, b1⟩
  · obtain ⟨k1, k2, k3⟩ := vx_keep h0 e1 hS hAX hf hL hF
    obtain ⟨t2, a1, b1⟩ := kx E ce q u t T'.heap (locs ++ L) e1.symm (by rw [← e2]; exact X'.warmed.alike) hp hb k1 k2 k3 (by rw [e1]; exact hce) hcv hcl T' rfl X'
    exact ⟨t2, st.trans a1, b1⟩
theorem vx_calld {S SX : Type} {post : UInt64 → S → Prop} {px : SX → Prop} {B : S → State → Prop} {BX : String → SX → State → Prop} {AX : Nat → Prop} (hr : vx_Run p l e R s m args below meth c H locs cells slots mc ms (F0 m pc ls st0) rest (va_Qd post B A1 a) (vx_X px BX AX) free) (hS : va_S A0 H0 H locs) (hA : ∀ q, q < H.size → A1 q → A0 q) (hf : ∀ q, free q → A0 q) (hAX : ∀ q, q < H.size → AX q → A0 q)
    (kx : ∀ (E : String) (ce : Cell) (q9 : Addr) (u : SX) (t : State) (H1 : Heap) (locs1 : List Loc), t.heap = H1 → s.vm.Alike t.vm → px u → BX E u t → H.size ≤ H1.size → (∀ q : Nat, q < H.size → ¬ AX q → H1[q]? = H[q]?) → va_S A0 H0 H1 locs1 → H1[q9]? = some ce → ce.vm = .none → s.vm.findClass E = some ce.cls → vx_W p l e R s m args below meth c H1 locs1 (cells + mc) (slots + ms) Q (F0 m pc ls rest) q9)
    (kk : ∀ (r : UInt64) (u : S) (t : State) (H1 : Heap) (locs1 : List Loc), t.heap = H1 → s.vm.Alike t.vm → post r u → B u t → H.size ≤ H1.size → (∀ q : Nat, q < H.size → ¬ A1 q → H1[q]? = H[q]?) → va_S A0 H0 H1 locs1 → W p l e R s m args below meth c H1 locs1 (cells + mc) (slots + ms) Q (F0 m (pc + 3) ls (.double r :: rest))) : W p l e R s m args below meth c H locs cells slots Q (F0 m pc ls st0) := by
  intro T hT X
  rcases hr T hT X with ⟨v, st₀, t, T', L, h0, X', hL, e1, e2, ⟨⟨r, u, hv, hp, hb⟩, hF⟩, st⟩ | ⟨q, st₀, t, T', L, E, ce, h0, X', hL, e1, e2, ⟨u, hp, hb, hF⟩, hce, hcv, hcl, st⟩
  · cases hv
    obtain ⟨k1, k2, k3⟩ := vx_keep h0 e1 hS hA hf hL hF
    obtain ⟨t2, a1, b1⟩ := kk r u t T'.heap (locs ++ L) e1.symm (by rw [← e2]; exact X'.warmed.alike) hp hb k1 k2 k3 T' rfl X'
    exact ⟨t2, st t2 a1, b1⟩
  · obtain ⟨k1, k2, k3⟩ := vx_keep h0 e1 hS hAX hf hL hF
    obtain ⟨t2, a1, b1⟩ := kx E ce q u t T'.heap (locs ++ L) e1.symm (by rw [← e2]; exact X'.warmed.alike) hp hb k1 k2 k3 (by rw [e1]; exact hce) hcv hcl T' rfl X'
    exact ⟨t2, st.trans a1, b1⟩
theorem vx_callv {S SX : Type} {post : S → Prop} {px : SX → Prop} {B : S → State → Prop} {BX : String → SX → State → Prop} {AX : Nat → Prop} (hr : vx_Run p l e R s m args below meth c H locs cells slots mc ms (F0 m pc ls st0) rest (va_Qv post B A1 a) (vx_X px BX AX) free) (hS : va_S A0 H0 H locs) (hA : ∀ q, q < H.size → A1 q → A0 q) (hf : ∀ q, free q → A0 q) (hAX : ∀ q, q < H.size → AX q → A0 q)
    (kx : ∀ (E : String) (ce : Cell) (q9 : Addr) (u : SX) (t : State) (H1 : Heap) (locs1 : List Loc), t.heap = H1 → s.vm.Alike t.vm → px u → BX E u t → H.size ≤ H1.size → (∀ q : Nat, q < H.size → ¬ AX q → H1[q]? = H[q]?) → va_S A0 H0 H1 locs1 → H1[q9]? = some ce → ce.vm = .none → s.vm.findClass E = some ce.cls → vx_W p l e R s m args below meth c H1 locs1 (cells + mc) (slots + ms) Q (F0 m pc ls rest) q9)
    (kk : ∀ (u : S) (t : State) (H1 : Heap) (locs1 : List Loc), t.heap = H1 → s.vm.Alike t.vm → post u → B u t → H.size ≤ H1.size → (∀ q : Nat, q < H.size → ¬ A1 q → H1[q]? = H[q]?) → va_S A0 H0 H1 locs1 → W p l e R s m args below meth c H1 locs1 (cells + mc) (slots + ms) Q (F0 m (pc + 3) ls (rest))) : W p l e R s m args below meth c H locs cells slots Q (F0 m pc ls st0) := by
  intro T hT X
  rcases hr T hT X with ⟨v, st₀, t, T', L, h0, X', hL, e1, e2, ⟨⟨u, hv, hp, hb⟩, hF⟩, st⟩ | ⟨q, st₀, t, T', L, E, ce, h0, X', hL, e1, e2, ⟨u, hp, hb, hF⟩, hce, hcv, hcl, st⟩
  · cases hv
    obtain ⟨k1, k2, k3⟩ := vx_keep h0 e1 hS hA hf hL hF
    obtain ⟨t2, a1, b1⟩ := kk u t T'.heap (locs ++ L) e1.symm (by rw [← e2]; exact X'.warmed.alike) hp hb k1 k2 k3 T' rfl X'
    exact ⟨t2, st t2 a1, b1⟩
  · obtain ⟨k1, k2, k3⟩ := vx_keep h0 e1 hS hAX hf hL hF
    obtain ⟨t2, a1, b1⟩ := kx E ce q u t T'.heap (locs ++ L) e1.symm (by rw [← e2]; exact X'.warmed.alike) hp hb k1 k2 k3 (by rw [e1]; exact hce) hcv hcl T' rfl X'
    exact ⟨t2, st.trans a1, b1⟩
end Rows
section Ends
variable {p : Program} {l : Launch} {e : Env} {R : Room} {s : State} {m : MethodId} {args : Array Value} {below : List Frame} {meth : Method} {c : Code} {H : Heap} {locs : List Loc} {cells slots : Nat} {Q : State → Prop}
variable {mc ms : Nat} {free : Addr → Prop} {A0 A1 : Nat → Prop} {H0 : Heap} {a : Array Value} {ls : Array Slot} {st0 rest : List Value}
variable {Qc : Array Value → State → Outcome → State → Prop} {XC : String → State → State → Prop}
/-- what a body that may throw owes at its end -/
def vx_MQ (below : List Frame) (Qc : Array Value → State → Outcome → State → Prop) (XC : String → State → State → Prop) (a : Array Value) (s : State) (mc ms : Nat) (free : Addr → Prop) : State → Prop := fun t =>
  ∃ o, t.status = .running ∧ Ended t below o ∧ vx_Q Qc XC mc ms free a s o t
theorem vx_ret {g : JFrame} {mc ms : Nat} (k : W p l e R s m args below meth c H locs cells slots (MQ below Qc args s mc ms free) g) : W p l e R s m args below meth c H locs cells slots (vx_MQ below Qc XC args s mc ms free) g := by
  intro T hT X
  obtain ⟨t, a1, o, b1, b2, b3, b4⟩ := k T hT X
  exact ⟨t, a1, o, b1, b2, Or.inl ⟨b3, b4⟩⟩
/-- not caught here: it goes on to the caller -/
theorem vx_widen {g : JFrame} {q : Addr} {k n : Nat} (h1 : cells ≤ k) (h2 : slots ≤ n) (kk : vx_W p l e R s m args below meth c H locs k n Q g q) : vx_W p l e R s m args below meth c H locs cells slots Q g q := fun T hT X => kk T hT (stand_widen X h1 h2)
theorem vx_out {pc : Nat} {E : String} {ce : Cell} {q : Addr} {mc ms : Nat} (hout : ∀ x ∈ c.exceptionTable.toList, covers x pc = false) (hlocks : meth.locks = false) (hcell : H[q]? = some ce) (hv : ce.vm = .none) (hcl : s.vm.findClass E = some ce.cls)
    (hx : ∀ t : State, t.heap = H → s.vm.Alike t.vm → XC E s t) (hf : ∀ z ∈ locs, free z.base) (hc : cells ≤ mc) (hs : slots ≤ ms) :
    vx_W p l e R s m args below meth c H locs cells slots (vx_MQ below Qc XC args s mc ms free) (F0 m pc ls rest) q := by
  intro T hT X
  obtain ⟨st1, hrun, hend, hW, hsm⟩ := X.leaveThrown q (g := F0 m pc ls rest) rfl rfl rfl hout hlocks
  have hcell9 : (T.setFrames (.throwing q :: below)).heap[q]? = some ce := by
    show T.heap[q]? = some ce
    rw [hT]; exact hcell
  exact ⟨_, st1, .threw q, hrun, hend, Or.inr ⟨q, rfl, E, ce, locs, hx _ hT hW.alike, hcell9, hv, hcl, hW, hsm.mono hc hs, hf⟩⟩
theorem vx_frame {U : State} {k n : Nat} (h : s.sameButNew ({ U with vm := s.vm } : State) locs k n) : s.heap.size ≤ U.heap.size ∧ ∀ q : Nat, q < s.heap.size → (∀ z ∈ locs, z.base ≠ q) → U.heap[q]? = s.heap[q]? := by
  obtain ⟨-, h2, -, -, -, h6⟩ := h
  refine ⟨h2, fun q hq hz => ?_⟩
  obtain ⟨c9, e1, e2, e3, e4⟩ := h6 q _ (Array.getElem?_eq_getElem hq)
  have hs : c9.slots = (s.heap[q]).slots := Array.ext_getElem? fun i => e4 i fun hm => hz _ hm rfl
  have h9 : c9 = s.heap[q] := by
    rw [hs] at e2
    exact e2
  have e5 : U.heap[q]? = some c9 := e1
  rw [e5, h9, Array.getElem?_eq_getElem hq]
/-- the words of a throw but the four that speak of the heap -/
def vx_no (w : Cond) : Bool := decide (w ≠ .isRef (.static Bundle.tN "UNASSIGNED_STACK" Bundle.steD)) && decide (w ≠ .isRef (.static Bundle.tN "SUPPRESSED_SENTINEL" Bundle.listD)) && decide (w ≠ .laysStatic Bundle.tN "UNASSIGNED_STACK" Bundle.steD) && decide (w ≠ .laysStatic Bundle.tN "SUPPRESSED_SENTINEL" Bundle.listD)
def vx_at0 (own : String) (ic : Nat) (X : String) (names : List String) : List Cond := (Bundle.ownAtoms0 own ic X names).filter vx_no
def vx_atS (own : String) (ic : Nat) (X : String) (names : List String) : List Cond := (Bundle.ownAtoms own ic X names).filter vx_no
/-- a word that the tables alone decide, or a good one -/
def vx_ot (w : Cond) : Bool := w.onTables || goodWord w
theorem vx_ot_at {args a' : Array Value} {s U : State} {w : Cond} (hW : s.WarmedH U.vm) (hvm : s.vm = U.vm) (hg : vx_ot w = true) (h : w.before args s = true) : w.before a' U = true := by
  simp only [vx_ot, Bool.or_eq_true] at hg
  rcases hg with hg | hg
  · exact va_tabs hg hvm h
  · exact word_at hW (good_of_word hg) h
/-- a list's words: the good ones out of the method's own list, the others by premises of their own -/
theorem vx_hat {args : Array Value} {s : State} {L B : List Cond} (h1 : ∀ w ∈ L.filter goodWord, w.before args s = true) (h2 : ∀ w ∈ L.filter (fun w => !goodWord w), w ∈ B) (h3 : ∀ w ∈ B, w.before args s = true) : ∀ w ∈ L, w.before args s = true := by
  intro w hw
  by_cases g : goodWord w = true
  · exact h1 w (List.mem_filter.mpr ⟨hw, g⟩)
  · refine h3 w (h2 w (List.mem_filter.mpr ⟨hw, ?_⟩))
    show (!goodWord w) = true
    cases hgw : goodWord w
    · rfl
    · exact absurd hgw g
theorem vx_c {args : Array Value} {s : State} {w : Cond} {B : List Cond} (h : w.before args s = true) (t : ∀ w ∈ B, w.before args s = true) : ∀ w' ∈ w :: B, w'.before args s = true := fun w' h' => (List.mem_cons.mp h').elim (fun e => by rw [e]; exact h) (t w')
theorem vx_n {args : Array Value} {s : State} : ∀ w ∈ ([] : List Cond), w.before args s = true := fun _ h => nomatch h
theorem vx_own {args : Array Value} {s : State} {L : List Cond} (h1 : ∀ w ∈ L.filter vx_no, w.before args s = true)
    (hU : (Cond.isRef (.static Bundle.tN "UNASSIGNED_STACK" Bundle.steD)).before args s = true) (hN : (Cond.isRef (.static Bundle.tN "SUPPRESSED_SENTINEL" Bundle.listD)).before args s = true)
    (lU : (Cond.laysStatic Bundle.tN "UNASSIGNED_STACK" Bundle.steD).before args s = true) (lN : (Cond.laysStatic Bundle.tN "SUPPRESSED_SENTINEL" Bundle.listD).before args s = true) : ∀ w ∈ L, w.before args s = true := by
  intro w hw
  by_cases e1 : w = .isRef (.static Bundle.tN "UNASSIGNED_STACK" Bundle.steD)
  · rw [e1]; exact hU
  · by_cases e2 : w = .isRef (.static Bundle.tN "SUPPRESSED_SENTINEL" Bundle.listD)
    · rw [e2]; exact hN
    · by_cases e3 : w = .laysStatic Bundle.tN "UNASSIGNED_STACK" Bundle.steD
      · rw [e3]; exact lU
      · by_cases e4 : w = .laysStatic Bundle.tN "SUPPRESSED_SENTINEL" Bundle.listD
        · rw [e4]; exact lN
        · exact h1 w (List.mem_filter.mpr ⟨hw, by unfold vx_no; rw [decide_eq_true e1, decide_eq_true e2, decide_eq_true e3, decide_eq_true e4]; rfl⟩)
/-- where a static field lies, its class's statics cell in H -/
def vx_L (C n d : String) (A : Nat → Prop) (U : State) (H : Heap) : Prop := ∃ (c : ClassId) (k : Class) (i : Nat) (f : Field) (a : Nat) (cell : Cell), U.vm.findClass C = some c ∧ U.fieldFound? C n d = some (c, k, i, f) ∧ f.isStatic = true ∧ k.statics = some a ∧ H[a]? = some cell ∧ cell.vm.isStatics = true ∧ cell.cls = c ∧ f.slot < cell.slots.size ∧ k.staticTypes[f.slot]? = some f.type ∧ ¬ A a
theorem vx_L.moved {C n d : String} {A : Nat → Prop} {u U : State} {H : Heap} (hvm : u.vm.Alike U.vm) (h : vx_L C n d A u H) : vx_L C n d A U H := by
  obtain ⟨c, k, i, f, a, cell, h1, h2, h3, h4, h5, h6, h7, h8, h9, h10⟩ := h
  obtain ⟨k', hi', he⟩ := State.fieldFound?_setVm hvm h2
  exact ⟨c, k', i, f, a, cell, by rw [hvm.findClass]; exact h1, hi', h3, by rw [he]; exact h4, h5, h6, h7, h8, by rw [he]; exact h9, h10⟩
theorem vx_L.kept {C n d : String} {A : Nat → Prop} {U : State} {H H1 : Heap} (h : vx_L C n d A U H) (hq : ∀ a : Nat, a < H.size → ¬ A a → H1[a]? = H[a]?) : vx_L C n d A U H1 := by
  obtain ⟨c, k, i, f, a, cell, h1, h2, h3, h4, h5, h6, h7, h8, h9, h10⟩ := h
  exact ⟨c, k, i, f, a, cell, h1, h2, h3, h4, by rw [hq a (Array.getElem?_eq_some_iff.mp h5).1 h10]; exact h5, h6, h7, h8, h9, h10⟩
theorem vx_L.narrow {C n d : String} {A B : Nat → Prop} {U : State} {H : Heap} (h : vx_L C n d A U H) (hAB : ∀ q, B q → A q) : vx_L C n d B U H := by
  obtain ⟨c, k, i, f, a, cell, h1, h2, h3, h4, h5, h6, h7, h8, h9, h10⟩ := h
  exact ⟨c, k, i, f, a, cell, h1, h2, h3, h4, h5, h6, h7, h8, h9, fun z => h10 (hAB _ z)⟩
theorem vx_L.word {C n d : String} {A : Nat → Prop} {s : State} {args : Array Value} (h : vx_L C n d A s s.heap) : (Cond.laysStatic C n d).before args s = true := by
  obtain ⟨c, k, i, f, a, cell, h1, h2, h3, h4, h5, h6, h7, h8, h9, -⟩ := h
  show (Cond.laysStatic C n d).holds args s none s [] = true
  exact Cond.laysStatic_of h1 h2 h3 h4 h5 h6 h7 h8 h9
/-- .. and what it holds: null or some reference -/
def vx_Zq (C n d : String) (A : Nat → Prop) (U : State) (H : Heap) : Prop := va_Zq C n d A U H ∧ vx_L C n d A U H
theorem vx_Zq.moved {C n d : String} {A : Nat → Prop} {u U : State} {H : Heap} (hvm : u.vm.Alike U.vm) (h : vx_Zq C n d A u H) : vx_Zq C n d A U H := ⟨va_Zq.moved hvm h.1, vx_L.moved hvm h.2⟩
theorem vx_Zq.kept {C n d : String} {A : Nat → Prop} {U : State} {H H1 : Heap} (h : vx_Zq C n d A U H) (hq : ∀ a : Nat, a < H.size → ¬ A a → H1[a]? = H[a]?) : vx_Zq C n d A U H1 := ⟨va_Zq.kept h.1 hq, vx_L.kept h.2 hq⟩
theorem vx_Zq.narrow {C n d : String} {A B : Nat → Prop} {U : State} {H : Heap} (h : vx_Zq C n d A U H) (hAB : ∀ q, B q → A q) : vx_Zq C n d B U H := ⟨va_Zq.narrow h.1 hAB, vx_L.narrow h.2 hAB⟩
theorem vx_Zqof {args : Array Value} {s : State} {C n d : String} {A : Nat → Prop} (hl : (Cond.laysStatic C n d).before args s = true) (hini : (Cond.initialized C).before args s = true) (h : (Cond.isRef (.static C n d)).before args s = true) (hA : ∀ a : Nat, a < s.heap.size → ¬ A a) : vx_Zq C n d A s s.heap := by
  refine ⟨va_Zqof hl hini h hA, ?_⟩
  obtain ⟨c, k, i, f, a, cell, h1, h2, h3, h4, h5, h6, h7, h8, h9⟩ := Cond.laysStatic_spec hl
  exact ⟨c, k, i, f, a, cell, h1, h2, h3, h4, h5, h6, h7, h8, h9, hA a (Array.getElem?_eq_some_iff.mp h5).1⟩
theorem vx_isRef {C n d : String} {v : Value} {A : Nat → Prop} {s : State} {args : Array Value} (h : va_Z C n d v A s s.heap) (hv : v.isRef = true) : (Cond.isRef (.static C n d)).before args s = true := by
  obtain ⟨cf, kf, fi, f, a, cell, h1, h2, h3, h4, h5, h6, h7, -⟩ := h
  have he : (Term.static C n d).eval args s none [] s = some v := by
    simp [Term.eval, State.fieldNamed?, h1, h2, h4, h5, h6, h7]
  simp only [Cond.before, Cond.holds, Cond.value, he]
  cases v <;> simp_all [Value.isRef]
theorem vx_isRefq {C n d : String} {A : Nat → Prop} {s : State} {args : Array Value} (h : va_Zq C n d A s s.heap) : (Cond.isRef (.static C n d)).before args s = true := by
  rcases h with h | ⟨t, h⟩
  · exact vx_isRef h rfl
  · exact vx_isRef h rfl
/-- the same frame, seen from here: as if the method were called anew in this heap -/
theorem vx_rebase {T : State} (X : Stand p l e R s m args below meth c T locs cells slots) {R' : Room} (hf : R'.frames ≤ R.frames) (hl : R'.locals ≤ R.locals) (hc : cells + R'.cells ≤ R.cells) (hs : slots + R'.slots ≤ R.slots) :
    Stand p l e R' ((T.setVm s.vm).setFrames (.invoking m args :: below)) m args below meth c T [] 0 0 := by
  have htop : (T.setVm s.vm).topJava?.isSome := X.here.top
  have hF : ((T.setVm s.vm).setFrames (.invoking m args :: below)).frames = .invoking m args :: below := State.frames_setFrames _ (State.cur_lt_of_top htop)
  obtain ⟨g₀, hg0⟩ := Option.isSome_iff_exists.mp htop
  obtain ⟨r, hr⟩ := State.topJava?_eq_some.mp hg0
  have hl9 : e.platform.stackLimits (T.setVm s.vm).me = e.platform.stackLimits s.me := X.limits
  have hb9 : (T.setVm s.vm).me.stackBytes = s.me.stackBytes := X.bytes
  refine ⟨X.admits, X.cas, X.clock, hF, ?_, X.hears, X.method, X.code, X.here, X.tail, X.warmed, ?_, ?_, ?_⟩
  · have h := X.room
    have hU : ((T.setVm s.vm).setFrames (.invoking m args :: below)).localsInUse = s.localsInUse := by
      rw [State.localsInUse_invoking hF (meth := meth) (c := c) X.method X.code, State.localsInUse_invoking X.frames X.method X.code]
    simp only [State.hasRoom, Bool.and_eq_true, decide_eq_true_eq] at h ⊢
    obtain ⟨⟨⟨⟨h1, h2, h3, h4, h5, h6⟩, h7⟩, h8⟩, h9⟩ := h
    rw [X.frames, List.length_cons] at h2 h3
    have q1 := X.heapSize
    have q2 := X.used
    simp only [hF, hU, List.length_cons, State.stackLimits_setFrames, State.stackBytes_setFrames, hl9, hb9]
    refine ⟨⟨⟨⟨by omega, by omega, by omega, by omega, by omega, h6⟩, ?_⟩, ?_⟩, X.book⟩
    · show T.heap.size + R'.cells ≤ e.platform.maxCells
      omega
    · show T.slotsUsed + R'.slots ≤ e.platform.maxSlots
      omega
  · rw [State.stackLimits_setFrames]; rfl
  · rw [State.stackBytes_setFrames]; rfl
  · refine ⟨?_, Nat.le_refl _, Nat.le_refl _, ?_, ?_, fun a c9 h9 => ⟨c9, h9, rfl, rfl, fun _ _ => rfl⟩⟩
    · obtain ⟨t, ht, -⟩ := State.frames_cons hr
      show T.setVm s.vm = { ((T.setVm s.vm).setFrames (.invoking m args :: below)).setFrames (T.setVm s.vm).frames with heap := T.heap, slotsUsed := T.slotsUsed }
      rw [State.setFrames_setFrames, State.setFrames_self ht]
      rfl
    · show T.slotsUsed = T.slotsUsed + ((T.heap.toList.drop T.heap.size).map (·.slots.size)).sum
      rw [List.drop_eq_nil_of_le (Nat.le_of_eq Array.length_toList)]
      rfl
    · show ((T.heap.toList.drop T.heap.size).map (·.slots.size)).sum ≤ 0
      rw [List.drop_eq_nil_of_le (Nat.le_of_eq Array.length_toList)]
      exact Nat.le_refl _
/-- 'throw new E()': new; dup; invokespecial; athrow -/
theorem vx_throw0 {cc : ByteArray} {pc : Nat} (hexec : p.tables.exec = Jvm.exec) (hb : c.code = cc) (hl : l.stackTraces = false) {own cls : String} {names : List String} {ik ic mc ms : Nat} {A : Nat → Prop}
    (hown : s.vm.findClass own = some m.cls) (hcls : Bundle.fit cls = true) (hnames : ∀ n ∈ names, Bundle.fit n = true)
    (hk : (Cond.classLink own ik cls).before args s = true) (hini : (Cond.initialized cls).before args s = true) (hat : ∀ w ∈ vx_at0 own ic cls names, w.before args s = true)
    (hgood : ∀ w ∈ Cond.classLink own ik cls :: Cond.initialized cls :: vx_at0 own ic cls names, vx_ot w = true)
    (hU : vx_Zq Bundle.tN "UNASSIGNED_STACK" Bundle.steD A s s.heap) (hN : vx_Zq Bundle.tN "SUPPRESSED_SENTINEL" Bundle.listD A s s.heap) (hS : va_S A s.heap H locs) (hsize : ls.size = c.maxLocals)
    (d0 : decode cc pc = .ok (.new ik, 3)) (d3 : decode cc (pc + 3) = .ok (.dup, 1)) (d4 : decode cc (pc + 4) = .ok (.invokespecial ic, 3)) (d7 : decode cc (pc + 7) = .ok (.athrow, 1))
    (hout : ∀ x ∈ c.exceptionTable.toList, covers x (pc + 7) = false)
    (hRframes : names.length + 3 < R.frames) (hRlocals : (rest.map fun v => v.category).sum + (13 * (names.length + 1) + 42) ≤ R.locals) (hRcells : cells + 1 ≤ R.cells) (hRslots : slots + 6 ≤ R.slots) (hlocks : meth.locks = false)
    (hx : ∀ t : State, s.vm.Alike t.vm → H.size ≤ t.heap.size → (∀ q : Nat, q < H.size → t.heap[q]? = H[q]?) → XC cls s t)
    (hf : ∀ z ∈ locs, free z.base) (hc : cells + 1 ≤ mc) (hs : slots + 6 ≤ ms) :
    W p l e R s m args below meth c H locs cells slots (vx_MQ below Qc XC args s mc ms free) (F0 m pc ls rest) := by
  intro T hT X
  have htr : e.platform.stackTraces = false := (show e.platform.stackTraces = l.stackTraces by rw [X.admits.platform]).trans hl
  have Y := vx_rebase X (R' := { frames := R.frames, locals := R.locals, cells := 1, slots := 6 }) (Nat.le_refl _) (Nat.le_refl _) hRcells hRslots
  obtain ⟨s', hA⟩ : ∃ z, z = (T.setVm s.vm).setFrames (.invoking m args :: below) := ⟨_, rfl⟩
  rw [← hA] at Y
  have hvm : s'.vm = s.vm := by rw [hA]; rfl
  have hhp : s'.heap = H := by rw [hA]; exact hT
  have hW0 : s.WarmedH s'.vm := by rw [hvm]; exact State.WarmedH.refl s
  have hat' : ∀ w ∈ vx_at0 own ic cls names, w.before args s' = true := fun w hw => vx_ot_at hW0 hvm.symm (hgood w (List.mem_cons_of_mem _ (List.mem_cons_of_mem _ hw))) (hat w hw)
  have hk' : (Cond.classLink own ik cls).before args s' = true := vx_ot_at hW0 hvm.symm (hgood _ List.mem_cons_self) hk
  have hini' : (Cond.initialized cls).before args s' = true := vx_ot_at hW0 hvm.symm (hgood _ (List.mem_cons_of_mem _ List.mem_cons_self)) hini
  have hU' : vx_Zq Bundle.tN "UNASSIGNED_STACK" Bundle.steD A s' s'.heap := by rw [hhp]; exact vx_Zq.moved hW0.alike (hU.kept hS.2.1)
  have hN' : vx_Zq Bundle.tN "SUPPRESSED_SENTINEL" Bundle.listD A s' s'.heap := by rw [hhp]; exact vx_Zq.moved hW0.alike (hN.kept hS.2.1)
  have h : ∀ w ∈ Bundle.ownAtoms0 own ic cls names, w.before args s' = true := vx_own hat' (vx_isRefq hU'.1) (vx_isRefq hN'.1) hU'.2.word hN'.2.word
  have hown' : s'.vm.findClass own = some m.cls := by rw [hvm]; exact hown
  have hins : (Cond.instantiable cls 6).before args s' = true := h _ (by simp [Bundle.ownAtoms0])
  obtain ⟨vm₁, cX, kX, hfX, hkX, -, -, X₁, st1⟩ := Y.newCold hexec (own := own) (C := cls) (index := ik) (n := 6) hown' hk' hins hini'
    (g := F0 m pc ls rest) rfl (by rw [hb]; exact d0) (Nat.le_refl _) (Nat.le_refl _)
  generalize hT1 : (T.setVm vm₁).pushCell { cls := cX, slots := kX.instanceTypes.map defaultValue, vm := .none } = T1 at X₁ st1
  have hcat : (Value.ref T.heap.size).category = 1 := rfl
  have hcellA : T1.heap[T.heap.size]? = some (freshCell cX kX) := by rw [← hT1]; exact State.heap_pushCell_size _ _
  have d3' : decode c.code (pc + 3) = .ok (.dup, 1) := by rw [hb]; exact d3
  obtain ⟨U, hsteps, hrun, hend, hW, hsame, ce, hce, hO⟩ := X₁.ctorThrow0 hexec htr (own := own) (cls := cls) (names := names) (ic := ic) hown' hcls hnames h (fun x hx => nomatch hx) hfX hkX hcellA (by rw [hhp, hT]; exact Nat.le_refl _)
    (g := { method := m, pc := pc + 4, locals := ls, stack := .ref T.heap.size :: .ref T.heap.size :: rest, locked := none }) rfl hsize rfl rfl (rest := rest) rfl
    (by rw [hb]; exact d4) (by rw [hb]; exact d7) hout hRframes (by simp only [List.map_cons, List.sum_cons, hcat]; omega) hlocks
  obtain ⟨f1, f2⟩ := vx_frame hsame
  rw [hhp] at f1 f2
  have hWs : s.WarmedH U.vm := State.WarmedH.trans hW0 hW
  have hcl : s.vm.findClass cls = some ce.cls := by
    have h9 := hO.cls
    rw [hvm] at h9
    exact h9
  have hall : s.sameButNew ({ U with vm := s.vm } : State) locs mc ms := by
    subst hA
    obtain ⟨e1, e2⟩ := hsame
    rw [State.setFrames_setFrames] at e1
    have h2 : (T.setVm s.vm).sameButNew ({ U with vm := s.vm } : State) [] (0 + 1) (0 + 6) := ⟨e1, e2⟩
    have h3 := X.same.trans h2
    rw [List.append_nil] at h3
    exact h3.mono hc hs
  refine ⟨U, ?_, .threw T.heap.size, hrun, hend, Or.inr ⟨T.heap.size, rfl, cls, ce, locs, hx U hWs.alike f1 (fun q hq => f2 q hq (fun z hz => nomatch hz)), hce, hO.vm, hcl, hWs, hall, hf⟩⟩
  refine st1 _ ?_
  show Steps p.tables e below (T1.setTop { method := m, pc := pc + 3, locals := ls, stack := .ref T.heap.size :: rest, locked := none }) _
  jvm_step X₁.here [X₁.here.top, hexec, d3', Value.category]
  exact hsteps
/-- 'throw new E("text")': new; dup; ldc; invokespecial; athrow -/
theorem vx_throwS {cc : ByteArray} {pc : Nat} (hexec : p.tables.exec = Jvm.exec) (hb : c.code = cc) (hl : l.stackTraces = false) {own cls text : String} {names : List String} {ik is ic mc ms sa : Nat} {A : Nat → Prop}
    (hown : s.vm.findClass own = some m.cls) (hcls : Bundle.fit cls = true) (hnames : ∀ n ∈ names, Bundle.fit n = true)
    (hk : (Cond.classLink own ik cls).before args s = true) (hini : (Cond.initialized cls).before args s = true) (hstr : vk_R own is text sa s) (hat : ∀ w ∈ vx_atS own ic cls names, w.before args s = true)
    (hgood : ∀ w ∈ Cond.classLink own ik cls :: Cond.initialized cls :: vx_atS own ic cls names, vx_ot w = true)
    (hU : vx_Zq Bundle.tN "UNASSIGNED_STACK" Bundle.steD A s s.heap) (hN : vx_Zq Bundle.tN "SUPPRESSED_SENTINEL" Bundle.listD A s s.heap) (hS : va_S A s.heap H locs) (hsize : ls.size = c.maxLocals)
    (d0 : decode cc pc = .ok (.new ik, 3)) (d3 : decode cc (pc + 3) = .ok (.dup, 1)) (d4 : decode cc (pc + 4) = .ok (.ldc is, 2)) (d6 : decode cc (pc + 6) = .ok (.invokespecial ic, 3)) (d9 : decode cc (pc + 9) = .ok (.athrow, 1))
    (hout : ∀ x ∈ c.exceptionTable.toList, covers x (pc + 9) = false)
    (hRframes : names.length + 3 < R.frames) (hRlocals : (rest.map fun v => v.category).sum + (13 * (names.length + 1) + 43) ≤ R.locals) (hRcells : cells + 1 ≤ R.cells) (hRslots : slots + 6 ≤ R.slots) (hlocks : meth.locks = false)
    (hx : ∀ t : State, s.vm.Alike t.vm → H.size ≤ t.heap.size → (∀ q : Nat, q < H.size → t.heap[q]? = H[q]?) → XC cls s t)
    (hf : ∀ z ∈ locs, free z.base) (hc : cells + 1 ≤ mc) (hs : slots + 6 ≤ ms) :
    W p l e R s m args below meth c H locs cells slots (vx_MQ below Qc XC args s mc ms free) (F0 m pc ls rest) := by
  intro T hT X
  have htr : e.platform.stackTraces = false := (show e.platform.stackTraces = l.stackTraces by rw [X.admits.platform]).trans hl
  have Y := vx_rebase X (R' := { frames := R.frames, locals := R.locals, cells := 1, slots := 6 }) (Nat.le_refl _) (Nat.le_refl _) hRcells hRslots
  obtain ⟨s', hA⟩ : ∃ z, z = (T.setVm s.vm).setFrames (.invoking m args :: below) := ⟨_, rfl⟩
  rw [← hA] at Y
  have hvm : s'.vm = s.vm := by rw [hA]; rfl
  have hhp : s'.heap = H := by rw [hA]; exact hT
  have hW0 : s.WarmedH s'.vm := by rw [hvm]; exact State.WarmedH.refl s
  have hat' : ∀ w ∈ vx_atS own ic cls names, w.before args s' = true := fun w hw => vx_ot_at hW0 hvm.symm (hgood w (List.mem_cons_of_mem _ (List.mem_cons_of_mem _ hw))) (hat w hw)
  have hk' : (Cond.classLink own ik cls).before args s' = true := vx_ot_at hW0 hvm.symm (hgood _ List.mem_cons_self) hk
  have hini' : (Cond.initialized cls).before args s' = true := vx_ot_at hW0 hvm.symm (hgood _ (List.mem_cons_of_mem _ List.mem_cons_self)) hini
  have hU' : vx_Zq Bundle.tN "UNASSIGNED_STACK" Bundle.steD A s' s'.heap := by rw [hhp]; exact vx_Zq.moved hW0.alike (hU.kept hS.2.1)
  have hN' : vx_Zq Bundle.tN "SUPPRESSED_SENTINEL" Bundle.listD A s' s'.heap := by rw [hhp]; exact vx_Zq.moved hW0.alike (hN.kept hS.2.1)
  have h : ∀ w ∈ Bundle.ownAtoms own ic cls names, w.before args s' = true := vx_own hat' (vx_isRefq hU'.1) (vx_isRefq hN'.1) hU'.2.word hN'.2.word
  have hown' : s'.vm.findClass own = some m.cls := by rw [hvm]; exact hown
  have hins : (Cond.instantiable cls 6).before args s' = true := h _ (by simp [Bundle.ownAtoms])
  obtain ⟨vm₁, cX, kX, hfX, hkX, -, -, X₁, st1⟩ := Y.newCold hexec (own := own) (C := cls) (index := ik) (n := 6) hown' hk' hins hini'
    (g := F0 m pc ls rest) rfl (by rw [hb]; exact d0) (Nat.le_refl _) (Nat.le_refl _)
  generalize hT1 : (T.setVm vm₁).pushCell { cls := cX, slots := kX.instanceTypes.map defaultValue, vm := .none } = T1 at X₁ st1
  have hcat : (Value.ref T.heap.size).category = 1 := rfl
  have hcellA : T1.heap[T.heap.size]? = some (freshCell cX kX) := by rw [← hT1]; exact State.heap_pushCell_size _ _
  have d3' : decode c.code (pc + 3) = .ok (.dup, 1) := by rw [hb]; exact d3
  have d4' : decode c.code (pc + 4) = .ok (.ldc is, 2) := by rw [hb]; exact d4
  have hstr' : vk_R own is text sa s' := vk_R.warm hW0 hstr
  obtain ⟨U, hsteps, hrun, hend, hW, hsame, ce, hce, hO⟩ := X₁.ctorThrowS hexec htr (own := own) (cls := cls) (names := names) (ic := ic) hown' hcls hnames h (fun x hx => nomatch hx) hfX hkX hcellA (by rw [hhp, hT]; exact Nat.le_refl _) (msg := .ref sa) rfl
    (g := { method := m, pc := pc + 6, locals := ls, stack := .ref sa :: .ref T.heap.size :: .ref T.heap.size :: rest, locked := none }) rfl hsize rfl rfl (rest := rest) rfl
    (by rw [hb]; exact d6) (by rw [hb]; exact d9) hout hRframes (by simp only [List.map_cons, List.sum_cons, hcat]; omega) hlocks
  obtain ⟨f1, f2⟩ := vx_frame hsame
  rw [hhp] at f1 f2
  have hWs : s.WarmedH U.vm := State.WarmedH.trans hW0 hW
  have hcl : s.vm.findClass cls = some ce.cls := by
    have h9 := hO.cls
    rw [hvm] at h9
    exact h9
  have hall : s.sameButNew ({ U with vm := s.vm } : State) locs mc ms := by
    subst hA
    obtain ⟨e1, e2⟩ := hsame
    rw [State.setFrames_setFrames] at e1
    have h2 : (T.setVm s.vm).sameButNew ({ U with vm := s.vm } : State) [] (0 + 1) (0 + 6) := ⟨e1, e2⟩
    have h3 := X.same.trans h2
    rw [List.append_nil] at h3
    exact h3.mono hc hs
  refine ⟨U, ?_, .threw T.heap.size, hrun, hend, Or.inr ⟨T.heap.size, rfl, cls, ce, locs, hx U hWs.alike f1 (fun q hq => f2 q hq (fun z hz => nomatch hz)), hce, hO.vm, hcl, hWs, hall, hf⟩⟩
  refine st1 _ ?_
  show Steps p.tables e below (T1.setTop { method := m, pc := pc + 3, locals := ls, stack := .ref T.heap.size :: rest, locked := none }) _
  jvm_step X₁.here [X₁.here.top, hexec, d3', Value.category]
  exact X₁.ldcString hexec (own := own) (text := text) (index := is) (a := sa) hown' hstr'.1 hstr'.2
    (g := { method := m, pc := pc + 4, locals := ls, stack := .ref T.heap.size :: .ref T.heap.size :: rest, locked := none }) rfl d4' _ hsteps
/-- 'throw new E("text")', the text by a wide index -/
theorem vx_throwSW {cc : ByteArray} {pc : Nat} (hexec : p.tables.exec = Jvm.exec) (hb : c.code = cc) (hl : l.stackTraces = false) {own cls text : String} {names : List String} {ik is ic mc ms sa : Nat} {A : Nat → Prop}
    (hown : s.vm.findClass own = some m.cls) (hcls : Bundle.fit cls = true) (hnames : ∀ n ∈ names, Bundle.fit n = true)
    (hk : (Cond.classLink own ik cls).before args s = true) (hini : (Cond.initialized cls).before args s = true) (hstr : vk_R own is text sa s) (hat : ∀ w ∈ vx_atS own ic cls names, w.before args s = true)
    (hgood : ∀ w ∈ Cond.classLink own ik cls :: Cond.initialized cls :: vx_atS own ic cls names, vx_ot w = true)
    (hU : vx_Zq Bundle.tN "UNASSIGNED_STACK" Bundle.steD A s s.heap) (hN : vx_Zq Bundle.tN "SUPPRESSED_SENTINEL" Bundle.listD A s s.heap) (hS : va_S A s.heap H locs) (hsize : ls.size = c.maxLocals)
    (d0 : decode cc pc = .ok (.new ik, 3)) (d3 : decode cc (pc + 3) = .ok (.dup, 1)) (d4 : decode cc (pc + 4) = .ok (.ldc_w is, 3)) (d7 : decode cc (pc + 7) = .ok (.invokespecial ic, 3)) (d10 : decode cc (pc + 10) = .ok (.athrow, 1))
    (hout : ∀ x ∈ c.exceptionTable.toList, covers x (pc + 10) = false)
    (hRframes : names.length + 3 < R.frames) (hRlocals : (rest.map fun v => v.category).sum + (13 * (names.length + 1) + 43) ≤ R.locals) (hRcells : cells + 1 ≤ R.cells) (hRslots : slots + 6 ≤ R.slots) (hlocks : meth.locks = false)
    (hx : ∀ t : State, s.vm.Alike t.vm → H.size ≤ t.heap.size → (∀ q : Nat, q < H.size → t.heap[q]? = H[q]?) → XC cls s t)
    (hf : ∀ z ∈ locs, free z.base) (hc : cells + 1 ≤ mc) (hs : slots + 6 ≤ ms) :
    W p l e R s m args below meth c H locs cells slots (vx_MQ below Qc XC args s mc ms free) (F0 m pc ls rest) := by
  intro T hT X
  have htr : e.platform.stackTraces = false := (show e.platform.stackTraces = l.stackTraces by rw [X.admits.platform]).trans hl
  have Y := vx_rebase X (R' := { frames := R.frames, locals := R.locals, cells := 1, slots := 6 }) (Nat.le_refl _) (Nat.le_refl _) hRcells hRslots
  obtain ⟨s', hA⟩ : ∃ z, z = (T.setVm s.vm).setFrames (.invoking m args :: below) := ⟨_, rfl⟩
  rw [← hA] at Y
  have hvm : s'.vm = s.vm := by rw [hA]; rfl
  have hhp : s'.heap = H := by rw [hA]; exact hT
  have hW0 : s.WarmedH s'.vm := by rw [hvm]; exact State.WarmedH.refl s
  have hat' : ∀ w ∈ vx_atS own ic cls names, w.before args s' = true := fun w hw => vx_ot_at hW0 hvm.symm (hgood w (List.mem_cons_of_mem _ (List.mem_cons_of_mem _ hw))) (hat w hw)
  have hk' : (Cond.classLink own ik cls).before args s' = true := vx_ot_at hW0 hvm.symm (hgood _ List.mem_cons_self) hk
  have hini' : (Cond.initialized cls).before args s' = true := vx_ot_at hW0 hvm.symm (hgood _ (List.mem_cons_of_mem _ List.mem_cons_self)) hini
  have hU' : vx_Zq Bundle.tN "UNASSIGNED_STACK" Bundle.steD A s' s'.heap := by rw [hhp]; exact vx_Zq.moved hW0.alike (hU.kept hS.2.1)
  have hN' : vx_Zq Bundle.tN "SUPPRESSED_SENTINEL" Bundle.listD A s' s'.heap := by rw [hhp]; exact vx_Zq.moved hW0.alike (hN.kept hS.2.1)
  have h : ∀ w ∈ Bundle.ownAtoms own ic cls names, w.before args s' = true := vx_own hat' (vx_isRefq hU'.1) (vx_isRefq hN'.1) hU'.2.word hN'.2.word
  have hown' : s'.vm.findClass own = some m.cls := by rw [hvm]; exact hown
  have hins : (Cond.instantiable cls 6).before args s' = true := h _ (by simp [Bundle.ownAtoms])
  obtain ⟨vm₁, cX, kX, hfX, hkX, -, -, X₁, st1⟩ := Y.newCold hexec (own := own) (C := cls) (index := ik) (n := 6) hown' hk' hins hini'
    (g := F0 m pc ls rest) rfl (by rw [hb]; exact d0) (Nat.le_refl _) (Nat.le_refl _)
  generalize hT1 : (T.setVm vm₁).pushCell { cls := cX, slots := kX.instanceTypes.map defaultValue, vm := .none } = T1 at X₁ st1
  have hcat : (Value.ref T.heap.size).category = 1 := rfl
  have hcellA : T1.heap[T.heap.size]? = some (freshCell cX kX) := by rw [← hT1]; exact State.heap_pushCell_size _ _
  have d3' : decode c.code (pc + 3) = .ok (.dup, 1) := by rw [hb]; exact d3
  have d4' : decode c.code (pc + 4) = .ok (.ldc_w is, 3) := by rw [hb]; exact d4
  have hstr' : vk_R own is text sa s' := vk_R.warm hW0 hstr
  obtain ⟨U, hsteps, hrun, hend, hW, hsame, ce, hce, hO⟩ := X₁.ctorThrowS hexec htr (own := own) (cls := cls) (names := names) (ic := ic) hown' hcls hnames h (fun x hx => nomatch hx) hfX hkX hcellA (by rw [hhp, hT]; exact Nat.le_refl _) (msg := .ref sa) rfl
    (g := { method := m, pc := pc + 7, locals := ls, stack := .ref sa :: .ref T.heap.size :: .ref T.heap.size :: rest, locked := none }) rfl hsize rfl rfl (rest := rest) rfl
    (by rw [hb]; exact d7) (by rw [hb]; exact d10) hout hRframes (by simp only [List.map_cons, List.sum_cons, hcat]; omega) hlocks
  obtain ⟨f1, f2⟩ := vx_frame hsame
  rw [hhp] at f1 f2
  have hWs : s.WarmedH U.vm := State.WarmedH.trans hW0 hW
  have hcl : s.vm.findClass cls = some ce.cls := by
    have h9 := hO.cls
    rw [hvm] at h9
    exact h9
  have hall : s.sameButNew ({ U with vm := s.vm } : State) locs mc ms := by
    subst hA
    obtain ⟨e1, e2⟩ := hsame
    rw [State.setFrames_setFrames] at e1
    have h2 : (T.setVm s.vm).sameButNew ({ U with vm := s.vm } : State) [] (0 + 1) (0 + 6) := ⟨e1, e2⟩
    have h3 := X.same.trans h2
    rw [List.append_nil] at h3
    exact h3.mono hc hs
  refine ⟨U, ?_, .threw T.heap.size, hrun, hend, Or.inr ⟨T.heap.size, rfl, cls, ce, locs, hx U hWs.alike f1 (fun q hq => f2 q hq (fun z hz => nomatch hz)), hce, hO.vm, hcl, hWs, hall, hf⟩⟩
  refine st1 _ ?_
  show Steps p.tables e below (T1.setTop { method := m, pc := pc + 3, locals := ls, stack := .ref T.heap.size :: rest, locked := none }) _
  jvm_step X₁.here [X₁.here.top, hexec, d3', Value.category]
  exact X₁.ldcStringW hexec (own := own) (text := text) (index := is) (a := sa) hown' hstr'.1 hstr'.2
    (g := { method := m, pc := pc + 4, locals := ls, stack := .ref T.heap.size :: .ref T.heap.size :: rest, locked := none }) rfl d4' _ hsteps
end Ends
section Bodies
variable {l : Launch}
theorem vx_ofW {y : MethodName} {ws ws' : List Cond} {rm : Room} {Pc : Array Value → State → Prop} {Qc : Array Value → State → Outcome → State → Prop} {XC : String → State → State → Prop} {mc ms : Nat} {free : Addr → Prop} {cc : ByteArray} {maxL : Nat} {ret : Option FieldType}
    (hy : plainName y.cls = true) (hw : ws = Cond.code y cc maxL ret :: ws')
    (body : ∀ p e s m args below meth c s₁, BodyLoose p l y (headSpec ws rm) cc maxL ret e s m args below meth c s₁ → c.maxLocals = maxL → (∀ x ∈ c.exceptionTable.toList, False) → Pc args s →
      W p l e (headSpec ws rm).room s m args below meth c s.heap [] 0 0 (vx_MQ below Qc XC args s mc ms free) (entryFrame m args maxL)) : vx_Met l y ws rm Pc Qc XC mc ms free := by
  refine MetFree.of_bodyS (code := cc) (maxLocals := maxL) (ret := ret) hy ?_ ?_
  · intro args s m h hn
    obtain ⟨meth, c, h1, h2, h3, h4, h5, h6, -, -⟩ := Cond.code_spec hn (atoms_spec (ws := ws) h _ (by rw [hw]; exact List.mem_cons_self))
    exact ⟨meth, c, h1, h2, h3, h4, h5, h6⟩
  · intro p e s m args below meth c s₁ B hml hP _
    have hh0 : s₁.heap = s.heap := by rw [B.state]; rfl
    have ht : ∀ x ∈ c.exceptionTable.toList, False := by
      obtain ⟨meth9, c9, h1, h2, -, -, -, -, h7, -⟩ := Cond.code_spec B.named (atoms_spec (ws := ws) B.pre _ (by rw [hw]; exact List.mem_cons_self))
      cases Option.some.inj (h1.symm.trans B.method)
      cases Option.some.inj (h2.symm.trans (Stand.of_body B).code)
      intro x hx
      rw [Array.isEmpty_iff.mp h7] at hx
      cases hx
    obtain ⟨t, a1, o, b1, b2, b3⟩ := body p e s m args below meth c s₁ B hml ht hP s₁ hh0 (Stand.of_body B)
    exact ⟨t, o, a1, b1, b2, b3⟩
/-- the table of a body with handlers -/
theorem vx_table {p : Program} {x y : MethodName} {S : Spec} {cc bytes : ByteArray} {maxL maxL' : Nat} {ret ret' : Option FieldType} {e : Env} {s s₁ : State} {m : MethodId} {args : Array Value} {below : List Frame} {meth : Method} {c : Code} {hh : List (Nat × Nat × Nat × Nat)}
    (B : BodyLoose p l y S cc maxL ret e s m args below meth c s₁) (h : (Cond.codeWith y bytes maxL' ret' hh).before args s = true) : c.exceptionTable.toList = tableOf hh := by
  obtain ⟨m9, meth9, c9, hn9, h1, h2, -, -, h6, -⟩ := Cond.codeWith_spec h
  cases Option.some.inj (hn9.symm.trans B.named)
  cases Option.some.inj (h1.symm.trans B.method)
  cases Option.some.inj (h2.symm.trans (Stand.of_body B).code)
  rw [← h6, table_eq]
end Bodies
end VXA
/-! ===== END ===== -/
/-! ===== BEGIN a static call of a method with an exception table ===== -/
section VXS
variable {p : Program} {l : Launch} {e : Env} {R : Room} {s : State} {m : MethodId} {args : Array Value} {below : List Frame} {meth : Method} {c : Code} {T : State} {H : Heap} {locs : List Loc} {cells slots : Nat}
abbrev vx_CSW (R : Room) (s : State) (args : Array Value) (own : String) (index : Nat) (y : MethodName) (bytes : ByteArray) (maxL : Nat) (ret : Option FieldType) (hh : List (Nat × Nat × Nat × Nat)) (ws : List Cond) (rm : Room) (mc ms n : Nat) : Prop :=
  (rm.cells = mc ∧ rm.slots = ms ∧ rm.frames + 1 ≤ R.frames ∧ 8 + (maxL + 11) + rm.locals ≤ R.locals ∧ (∀ w ∈ ws, ∀ (a' : Array Value) (U : State), s.WarmedH U.vm → w.before a' U = true) ∧ Cond.codeWith y bytes maxL ret hh ∈ ws) ∧
  (Cond.codeWith y bytes maxL ret hh).before args s = true ∧ (Cond.initialized y.cls).before args s = true ∧ (y.cls ≠ "java/lang/invoke/MethodHandle" ∧ y.cls ≠ "java/lang/invoke/VarHandle") ∧
  (∀ sig, parseMethodDescriptor y.desc = some sig → n = sig.parameters.length) ∧ (Cond.methodLink own index y).before args s = true ∧ (Cond.static y).before args s = true
theorem vx_cwSW {own : String} {index maxL mc ms : Nat} {y : MethodName} {bytes : ByteArray} {ret : Option FieldType} {hh : List (Nat × Nat × Nat × Nat)} {Ts ws ws' : List Cond} {rm : Room} (n : Nat) (ht : ∀ w ∈ Ts, w.before args s = true) (hT : GoodIn Ts (va_wsS own index y ws)) (hw : ws = Cond.codeWith y bytes maxL ret hh :: ws') (hrc : rm.cells = mc) (hrs : rm.slots = ms)
    (hd : y.cls ≠ "java/lang/invoke/MethodHandle" ∧ y.cls ≠ "java/lang/invoke/VarHandle" ∧ (parseMethodDescriptor y.desc).map (fun d => d.parameters.length) = some n) (hR : rm.frames + 1 ≤ R.frames ∧ 8 + (maxL + 11) + rm.locals ≤ R.locals) :
    vx_CSW R s args own index y bytes maxL ret hh ws rm mc ms n := by
  have ok : ∀ w ∈ va_wsS own index y ws, w.before args s = true := fun w h => ht w (hT w h).1
  have hG : GoodIn Ts ws := fun w h => hT w (by unfold va_wsS; exact List.mem_append_right _ h)
  have hc : Cond.codeWith y bytes maxL ret hh ∈ ws := by rw [hw]; exact List.mem_cons_self
  refine ⟨⟨hrc, hrs, hR.1, hR.2, pay_in ht hG, hc⟩, ht _ (hG _ hc).1, ok _ (by simp [va_wsS]), ⟨hd.1, hd.2.1⟩, fun sig h => ?_, ok _ (by simp [va_wsS]), ok _ (by simp [va_wsS])⟩
  have h2 := hd.2.2
  rw [h] at h2
  exact (Option.some.inj h2).symm
theorem vx_callSW (X : Stand p l e R s m args below meth c T locs cells slots) (hexec : p.tables.exec = Jvm.exec) {own : String} {index : Nat} {y : MethodName} {bytes : ByteArray} {maxL : Nat} {ret : Option FieldType} {hh : List (Nat × Nat × Nat × Nat)}
    (hown : s.vm.findClass own = some m.cls) (hlink : (Cond.methodLink own index y).before args s = true) (hstat : (Cond.static y).before args s = true) (hinit : (Cond.initialized y.cls).before args s = true)
    (hcode : (Cond.codeWith y bytes maxL ret hh).before args s = true) (hy : y.cls ≠ "java/lang/invoke/MethodHandle" ∧ y.cls ≠ "java/lang/invoke/VarHandle")
    {W9 : Nat} {Pre : Pt → Array Value → Prop} {Post : Pt → Array Value → Option Value → Pt → Prop} (hK : Back l R p e below s args y 3 W9 Pre Post)
    {g : JFrame} (hg : g.method = m) (hsize : g.locals.size = c.maxLocals) {argsL rest : List Value} (hlen : ∀ sig, parseMethodDescriptor y.desc = some sig → argsL.length = sig.parameters.length)
    (hstack : g.stack = argsL.reverse ++ rest) (hW : 2 * g.monitorRoom + (rest.map fun v => v.category).sum ≤ W9) (hdg : decode c.code g.pc = .ok (.invokestatic index, 3))
    (hpre : ∀ vm₁, s.WarmedH vm₁ → Pre ⟨T.setVm vm₁, locs, cells, slots⟩ argsL.toArray) :
    ∃ (v : Option Value) (vm₁ : Vm) (B : Pt), s.WarmedH vm₁ ∧ Stand p l e R s m args below meth c B.U B.locs B.cells B.slots ∧ Post ⟨T.setVm vm₁, locs, cells, slots⟩ argsL.toArray v B ∧
      ∀ target, Steps p.tables e below (B.U.setTop { g with pc := g.pc + 3, stack := v.toList ++ rest }) target → Steps p.tables e below (T.setTop g) target := by
  obtain ⟨mk, methM, cM, hnamed, hmethM, -, -, -, -, -, -, hsigM⟩ := Cond.codeWith_spec hcode
  have hstatic : methM.isStatic = true := Cond.static_spec hnamed hmethM hstat
  obtain ⟨kP, hkP, -⟩ := className_of_methodNamed hnamed
  have hinitP : kP.init = .initialized := Cond.initialized_spec (findClass_of_methodNamed hnamed) hkP hinit
  obtain ⟨vm₁, X₁, hstep₁⟩ := X.invokestatic hexec hown hlink hnamed hmethM hstatic hkP hinitP hy (g := g) hg (argsL := argsL) (rest := rest) (hlen _ hsigM) hstack hdg
  obtain ⟨v, B, X', hpost, hsteps⟩ := hK m meth c ⟨T.setVm vm₁, locs, cells, slots⟩ { g with stack := rest } (.invokestatic index) mk argsL.toArray X₁ hg hsize hdg hW (X₁.named hnamed) (hpre vm₁ X₁.warmed)
  exact ⟨v, vm₁, B, X₁.warmed, X', hpost, fun target h => hstep₁ _ fun acts => by rw [doInvoke_state]; exact hsteps.trans h⟩
theorem vx_runSW {y : MethodName} {bytes cc : ByteArray} {maxL nL mc ms n index : Nat} {ret : Option FieldType} {hh : List (Nat × Nat × Nat × Nat)} {ws : List Cond} {rm : Room} {Pc : Array Value → State → Prop} {Qc : Array Value → State → Outcome → State → Prop} {free : Addr → Prop} {Ts : List Cond} {own : String} {As rest : List Value} {g : JFrame}
    (S : CallFix p m c cc nL s args Ts own) (hM : Met l y ws rm Pc Qc mc ms free) (cw : vx_CSW R s args own index y bytes maxL ret hh ws rm mc ms n) (hp : PreS s H Pc As)
    (hg : g.method = m) (hn : As.length = n) (hsize : g.locals.size = nL) (hstack : g.stack = As.reverse ++ rest) (hW : 2 * g.monitorRoom + (rest.map fun v => v.category).sum ≤ 8) (hdg : decode cc g.pc = .ok (.invokestatic index, 3)) (hf : cells + mc ≤ R.cells ∧ slots + ms ≤ R.slots) :
    va_Run p l e R s m args below meth c H locs cells slots mc ms g rest (Qc As.toArray) (free) := by
  obtain ⟨⟨hrc, hrs, hfr, hlo, hws, hcw⟩, hcode, hini, hy, hlen, hl, hstt⟩ := cw
  have hK : Back l R p e below s args y 3 8 (PreOf R mc ms Pc) (PostOf Qc mc ms free) := va_backW (hh := hh) (bytes := bytes) (maxL := maxL) (ret := ret) hM hp.1 hrc hrs hfr hlo hws hcw (fun a' U hW => word_at hW (Or.inl (by first | rfl | simp [Cond.onTables, Cond.keeps, Cond.steady])) hini)
  obtain ⟨hx, hb, hml, ho, -⟩ := S
  intro T hT X
  obtain ⟨v, vm₁, ⟨U', l2, c2, s2⟩, hW₁, X', ⟨g', mk, t, L, e1, e2, hq, h1, hL, h2, h3⟩, st⟩ := vx_callSW X hx (hh := hh) (bytes := bytes) (maxL := maxL) (ret := ret) ho hl hstt hini hcode hy hK hg (hsize.trans hml.symm) (argsL := As) (rest := rest) (fun sig h => hn.trans (hlen sig h)) hstack hW (by rw [hb]; exact hdg)
    (fun vm₁ hW₁ => ⟨hf.1, hf.2, hp.2 (T.setVm vm₁) hT hW₁⟩)
  dsimp only [Pt.U, Pt.locs, Pt.cells, Pt.slots] at X' e1 e2 h1 h2 h3 st
  subst h1; subst h2; subst h3
  exact ⟨v, (T.setVm vm₁).calling g' mk As.toArray, t, U', L, hT, X', hL, e1, e2, hq, st⟩
/-- a thing of a world lies in the heap -/
theorem vx_lt {D : va_G} {cl : List vw_C} {ws : va_W} {H1 : Heap} (h : va_P D cl ws H1) {k : Nat} {q : Nat × va_E} (hk : ws[k]? = some q) : q.1 < H1.size := (h k q hk).lt
end VXS
/-! ===== END ===== -/
/-! ===== BEGIN methods with a table of their own: called by a name, returning or throwing ===== -/
section VXH
/-! vx_backW, vx_callVX, vx_callSX, vx_callVW, vx_runVW, vx_runVX, vx_runSX, vx_ofWH follow the same proofs as their sisters above (Free/Laws.lean, Shelf42/LK1.lean); vx_outP calls Shelf42/NT130.lean (outThrough). -/
section
variable {l : Launch} {R : Room} {p : Program} {e : Env} {below : List Frame} {s : State} {sargs : Array Value} {y : MethodName} {len W9 : Nat}
theorem vx_backW {ws : List Cond} {rm : Room} {Pc : Array Value → State → Prop} {Qc : Array Value → State → Outcome → State → Prop} {XC : String → State → State → Prop} {mc ms : Nat} {free : Addr → Prop} {bytes : ByteArray} {maxL : Nat} {ret : Option FieldType} {hh : List (Nat × Nat × Nat × Nat)}
    (hM : vx_Met l y ws rm Pc Qc XC mc ms free) (hblind : FrameBlind Pc) (hrc : rm.cells = mc) (hrs : rm.slots = ms)
    (hframes : rm.frames + 1 ≤ R.frames) (hlocals : W9 + (maxL + 11) + rm.locals ≤ R.locals)
    (hws : ∀ w ∈ ws, ∀ a' U, s.WarmedH U.vm → w.before a' U = true) (hcode : Cond.codeWith y bytes maxL ret hh ∈ ws) (hinit : ∀ a' U, s.WarmedH U.vm → (Cond.initialized y.cls).before a' U = true) :
    vx_Back l R p e below s sargs y len W9 (PreOf R mc ms Pc) (PostOf Qc mc ms free) (vx_Post XC mc ms free) := by
  intro m meth c A g ig mk a X hg hsize hdg hW hn hp
  have h1 : (headSpec ws rm).pre.before a A.U = true := atoms_intro fun w hw => hws w hw _ _ X.warmed
  have h2 : (Cond.codeWith y bytes maxL ret hh).before a A.U = true := hws _ hcode _ _ X.warmed
  have h3 : (Cond.initialized y.cls).before a A.U = true := hinit _ _ X.warmed
  have h4 : A.cells + (headSpec ws rm).room.cells ≤ R.cells := by rw [show (headSpec ws rm).room.cells = mc from hrc]; exact hp.1
  have h5 : A.slots + (headSpec ws rm).room.slots ≤ R.slots := by rw [show (headSpec ws rm).room.slots = ms from hrs]; exact hp.2.1
  have hPc : Pc a (A.U.calling g mk a) := hblind _ _ _ _ hp.2.2
  obtain ⟨U, Ls, c0, s0⟩ := A
  dsimp only [Pt.U, Pt.locs, Pt.cells, Pt.slots] at h1 h2 h3 h4 h5 X hn hPc ⊢
  obtain ⟨m9, methY, cY, hn9, hmY, hcY, -, hlY, -⟩ := Cond.codeWith_spec h2
  cases Option.some.inj (hn9.symm.trans hn)
  obtain ⟨kY, hkY, -⟩ := className_of_methodNamed hn
  have hinitY : kY.init = .initialized := Cond.initialized_spec (findClass_of_methodNamed hn) hkY h3
  have h : At U g.method c below := by rw [hg]; exact X.here
  have hlocals9 : W9 + (maxL + 11) + (headSpec ws rm).room.locals ≤ R.locals := hlocals
  have happ : (headSpec ws rm).appliesLoose y e.platform (U.calling g mk a) = true :=
    Spec.appliesLoose_calling (g := g) h hdg hn hkY hinitY
      (X.room_calling (g := g) (R' := (headSpec ws rm).room) hsize hmY hcY hframes (by rw [hlY]; omega) h4 h5) h1
  obtain ⟨mid, hmid⟩ := h.above
  have hfr : (U.setTop g).frames = (.java g :: mid) ++ below := by rw [State.frames_setTop' g h.top, hmid]; rfl
  obtain ⟨o, s₂, hsteps, -, hend, hq⟩ := Steps.callFree hM p X.admits X.cas X.clock (acts := []) hfr happ hPc trivial
  have hq' : vx_Q Qc XC mc ms free a (U.calling g mk a) o s₂ := hq
  rw [State.frames_setTop' g h.top] at hend
  obtain ⟨g₀, hg0⟩ := Option.isSome_iff_exists.mp h.top
  obtain ⟨r, hr⟩ := State.topJava?_eq_some.mp hg0
  have hr' : (({ U with heap := s₂.heap, slotsUsed := s₂.slotsUsed } : State).setVm s₂.vm).frames = .java g₀ :: r := hr
  rcases hq' with ⟨hqc, L, hfe, hL⟩ | ⟨q, rfl, E, ce, L, hx, hce, hcv, hcl, hW₂, hsm, hL⟩
  · obtain ⟨⟨v, rfl⟩, hW₂, e2, q2, q3, q4, q5, q6⟩ := id hfe
    have e3 : s₂ = ({ (U.calling g mk a).setFrames s₂.frames with heap := s₂.heap, slotsUsed := s₂.slotsUsed } : State).setVm s₂.vm := by
      have : s₂ = ({ s₂ with vm := (U.calling g mk a).vm } : State).setVm s₂.vm := rfl
      rw [e2] at this
      exact this
    obtain ⟨c₂, i₂, len₂, hc₂, hd₂, hf₂⟩ := hend
    have hW' : U.WarmedH s₂.vm := hW₂
    have hcc : c₂ = c := by
      have h1 : s₂.code? g.method = U.code? g.method := by
        rw [State.code?_eq, State.code?_eq, hW'.alike.method?]
      exact Option.some.inj (hc₂.symm.trans (h1.trans h.code))
    subst hcc
    have hlen : len₂ = len := by rw [hdg] at hd₂; cases hd₂; rfl
    subst hlen
    have hs₂ : s₂ = (({ U with heap := s₂.heap, slotsUsed := s₂.slotsUsed } : State).setVm s₂.vm).setTop { g with pc := g.pc + len₂, stack := v.toList ++ g.stack } := by
      refine e3.trans ?_
      rw [hf₂, State.calling_eq h.top, State.setFrames_setFrames, State.setTop_of_frames _ hr', hr]
      rfl
    have hsame : U.sameButNew ({ U with heap := s₂.heap, slotsUsed := s₂.slotsUsed } : State) L mc ms := by
      refine ⟨?_, q2, q3, q4, q5, q6⟩
      obtain ⟨t, ht, -⟩ := State.frames_cons hr
      show ({ U with heap := s₂.heap, slotsUsed := s₂.slotsUsed } : State) = { U.setFrames U.frames with heap := s₂.heap, slotsUsed := s₂.slotsUsed }
      rw [State.setFrames_self ht]
    subst hg
    refine Or.inl ⟨v, ⟨(({ U with heap := s₂.heap, slotsUsed := s₂.slotsUsed } : State).setVm s₂.vm), Ls ++ L, c0 + mc, s0 + ms⟩,
      ⟨X.admits, X.cas, X.clock, X.frames, X.room, X.hears, X.method, X.code, (X.here.setHeapUsed s₂.heap s₂.slotsUsed).setVm hW'.alike, X.tail, State.WarmedH.trans X.warmed hW', X.limits, X.bytes, X.same.trans (hsame.setVm s.vm)⟩,
      ⟨g, mk, s₂, L, rfl, rfl, hqc, rfl, hL, rfl, rfl⟩, ?_⟩
    show Steps p.tables e below _ ((({ U with heap := s₂.heap, slotsUsed := s₂.slotsUsed } : State).setVm s₂.vm).setTop { g with pc := g.pc + len₂, stack := v.toList ++ g.stack })
    rw [← hs₂]
    exact hsteps
  · obtain ⟨e2, q2, q3, q4, q5, q6⟩ := id hsm
    have e3 : s₂ = ({ (U.calling g mk a).setFrames s₂.frames with heap := s₂.heap, slotsUsed := s₂.slotsUsed } : State).setVm s₂.vm := by
      have : s₂ = ({ s₂ with vm := (U.calling g mk a).vm } : State).setVm s₂.vm := rfl
      rw [e2] at this
      exact this
    have hf₂ : s₂.frames = .throwing q :: .java g :: U.frames.tail := hend
    have hW' : U.WarmedH s₂.vm := hW₂
    have hs₂ : s₂ = ((({ U with heap := s₂.heap, slotsUsed := s₂.slotsUsed } : State).setVm s₂.vm).setTop g).pushFrame (.throwing q) := by
      refine e3.trans ?_
      rw [hf₂, State.calling_eq h.top, State.setFrames_setFrames, State.pushFrame, State.frames_setTop _ hr', State.setTop_of_frames _ hr', State.setFrames_setFrames, hr]
      rfl
    have hsame : U.sameButNew ({ U with heap := s₂.heap, slotsUsed := s₂.slotsUsed } : State) L mc ms := by
      refine ⟨?_, q2, q3, q4, q5, q6⟩
      obtain ⟨t, ht, -⟩ := State.frames_cons hr
      show ({ U with heap := s₂.heap, slotsUsed := s₂.slotsUsed } : State) = { U.setFrames U.frames with heap := s₂.heap, slotsUsed := s₂.slotsUsed }
      rw [State.setFrames_self ht]
    subst hg
    refine Or.inr ⟨q, ⟨(({ U with heap := s₂.heap, slotsUsed := s₂.slotsUsed } : State).setVm s₂.vm), Ls ++ L, c0 + mc, s0 + ms⟩,
      ⟨X.admits, X.cas, X.clock, X.frames, X.room, X.hears, X.method, X.code, (X.here.setHeapUsed s₂.heap s₂.slotsUsed).setVm hW'.alike, X.tail, State.WarmedH.trans X.warmed hW', X.limits, X.bytes, X.same.trans (hsame.setVm s.vm)⟩,
      ⟨g, mk, s₂, L, E, ce, rfl, rfl, hx, hce, hcv, hcl, rfl, hL, rfl, rfl⟩, ?_⟩
    show Steps p.tables e below _ (((({ U with heap := s₂.heap, slotsUsed := s₂.slotsUsed } : State).setVm s₂.vm).setTop g).pushFrame (.throwing q))
    rw [← hs₂]
    exact hsteps
end
variable {p : Program} {l : Launch} {e : Env} {R : Room} {s : State} {m : MethodId} {args : Array Value} {below : List Frame} {meth : Method} {c : Code} {T : State} {H : Heap} {locs : List Loc} {cells slots : Nat}
theorem vx_callVX (X : Stand p l e R s m args below meth c T locs cells slots) (hexec : p.tables.exec = Jvm.exec) {own C : String} {index : Nat} {y : MethodName} {bytes : ByteArray} {maxL : Nat} {ret : Option FieldType} {hh : List (Nat × Nat × Nat × Nat)}
    (hown : s.vm.findClass own = some m.cls) (hlink : (Cond.methodLink own index y).before args s = true) (hinst : (Cond.instanceMethod y).before args s = true) (hsel : (Cond.selects C y y).before args s = true)
    (hcode : (Cond.codeWith y bytes maxL ret hh).before args s = true) (hy : y.cls ≠ "java/lang/invoke/MethodHandle" ∧ y.cls ≠ "java/lang/invoke/VarHandle")
    {W9 : Nat} {Pre : Pt → Array Value → Prop} {Post : Pt → Array Value → Option Value → Pt → Prop} {PostX : Pt → Array Value → Addr → Pt → Prop} (hK : vx_Back l R p e below s args y 3 W9 Pre Post PostX)
    {b : Addr} {cellB : Cell} (hcell : T.heap[b]? = some cellB) (hobj : cellB.vm.isStatics = false) (hcls : s.vm.findClass C = some cellB.cls)
    {g : JFrame} (hg : g.method = m) (hsize : g.locals.size = c.maxLocals) {argsL rest : List Value} (hlen : ∀ sig, parseMethodDescriptor y.desc = some sig → argsL.length = sig.parameters.length)
    (hstack : g.stack = argsL.reverse ++ .ref b :: rest) (hW : 2 * g.monitorRoom + (rest.map fun v => v.category).sum ≤ W9) (hdg : decode c.code g.pc = .ok (.invokevirtual index, 3))
    (hpre : ∀ vm₁, s.WarmedH vm₁ → Pre ⟨T.setVm vm₁, locs, cells, slots⟩ (Value.ref b :: argsL).toArray) :
    (∃ (v : Option Value) (vm₁ : Vm) (B : Pt), s.WarmedH vm₁ ∧ Stand p l e R s m args below meth c B.U B.locs B.cells B.slots ∧ Post ⟨T.setVm vm₁, locs, cells, slots⟩ (Value.ref b :: argsL).toArray v B ∧
      ∀ target, Steps p.tables e below (B.U.setTop { g with pc := g.pc + 3, stack := v.toList ++ rest }) target → Steps p.tables e below (T.setTop g) target) ∨
    (∃ (q : Addr) (vm₁ : Vm) (B : Pt), s.WarmedH vm₁ ∧ Stand p l e R s m args below meth c B.U B.locs B.cells B.slots ∧ PostX ⟨T.setVm vm₁, locs, cells, slots⟩ (Value.ref b :: argsL).toArray q B ∧
      Steps p.tables e below (T.setTop g) ((B.U.setTop { g with stack := rest }).pushFrame (.throwing q))) := by
  obtain ⟨mk, methM, hnamed, hmethM, hstM, habM⟩ := Cond.instanceMethod_spec hinst
  obtain ⟨m8, methM', cM, hn8, hmethM', -, -, -, -, -, -, hsigM⟩ := Cond.codeWith_spec hcode
  cases Option.some.inj (hn8.symm.trans hnamed)
  cases hmethM.symm.trans hmethM'
  obtain ⟨c2, r2, m2, q1, q2, q3, q4, kP, hkP, hkPi⟩ := Cond.selects_spec hsel
  cases hcls.symm.trans q1
  cases (State.methodFound?_of_named hnamed hy).symm.trans q2
  cases hnamed.symm.trans q3
  have hselP : selectMethod e.platform s.vm cellB.cls mk = .method mk := by rw [Launch.admits_selectMethod X.admits]; exact q4
  obtain ⟨vm₁, X₁, hstep₁⟩ := X.invokevirtual hexec hown hlink hnamed hmethM hstM hkP hkPi hy (a := b) (cell := cellB) hcell
    (fun z h => by rw [h] at hobj; cases hobj) hselP hmethM habM hkP hkPi (g := g) hg (argsL := argsL) (rest := rest) (hlen _ hsigM) hstack hdg
  rcases hK m meth c ⟨T.setVm vm₁, locs, cells, slots⟩ { g with stack := rest } (.invokevirtual index) mk (Value.ref b :: argsL).toArray X₁ hg hsize hdg hW (X₁.named hnamed) (hpre vm₁ X₁.warmed) with ⟨v, B, X', hpost, hsteps⟩ | ⟨q, B, X', hpost, hsteps⟩
  · exact Or.inl ⟨v, vm₁, B, X₁.warmed, X', hpost, fun target h => hstep₁ _ fun acts => by rw [doInvoke_state]; exact hsteps.trans h⟩
  · exact Or.inr ⟨q, vm₁, B, X₁.warmed, X', hpost, hstep₁ _ fun acts => by rw [doInvoke_state]; exact hsteps⟩
theorem vx_callSX (X : Stand p l e R s m args below meth c T locs cells slots) (hexec : p.tables.exec = Jvm.exec) {own : String} {index : Nat} {y : MethodName} {bytes : ByteArray} {maxL : Nat} {ret : Option FieldType} {hh : List (Nat × Nat × Nat × Nat)}
    (hown : s.vm.findClass own = some m.cls) (hlink : (Cond.methodLink own index y).before args s = true) (hstat : (Cond.static y).before args s = true) (hinit : (Cond.initialized y.cls).before args s = true)
    (hcode : (Cond.codeWith y bytes maxL ret hh).before args s = true) (hy : y.cls ≠ "java/lang/invoke/MethodHandle" ∧ y.cls ≠ "java/lang/invoke/VarHandle")
    {W9 : Nat} {Pre : Pt → Array Value → Prop} {Post : Pt → Array Value → Option Value → Pt → Prop} {PostX : Pt → Array Value → Addr → Pt → Prop} (hK : vx_Back l R p e below s args y 3 W9 Pre Post PostX)
    {g : JFrame} (hg : g.method = m) (hsize : g.locals.size = c.maxLocals) {argsL rest : List Value} (hlen : ∀ sig, parseMethodDescriptor y.desc = some sig → argsL.length = sig.parameters.length)
    (hstack : g.stack = argsL.reverse ++ rest) (hW : 2 * g.monitorRoom + (rest.map fun v => v.category).sum ≤ W9) (hdg : decode c.code g.pc = .ok (.invokestatic index, 3))
    (hpre : ∀ vm₁, s.WarmedH vm₁ → Pre ⟨T.setVm vm₁, locs, cells, slots⟩ argsL.toArray) :
    (∃ (v : Option Value) (vm₁ : Vm) (B : Pt), s.WarmedH vm₁ ∧ Stand p l e R s m args below meth c B.U B.locs B.cells B.slots ∧ Post ⟨T.setVm vm₁, locs, cells, slots⟩ argsL.toArray v B ∧
      ∀ target, Steps p.tables e below (B.U.setTop { g with pc := g.pc + 3, stack := v.toList ++ rest }) target → Steps p.tables e below (T.setTop g) target) ∨
    (∃ (q : Addr) (vm₁ : Vm) (B : Pt), s.WarmedH vm₁ ∧ Stand p l e R s m args below meth c B.U B.locs B.cells B.slots ∧ PostX ⟨T.setVm vm₁, locs, cells, slots⟩ argsL.toArray q B ∧
      Steps p.tables e below (T.setTop g) ((B.U.setTop { g with stack := rest }).pushFrame (.throwing q))) := by
  obtain ⟨mk, methM, cM, hnamed, hmethM, -, -, -, -, -, -, hsigM⟩ := Cond.codeWith_spec hcode
  have hstatic : methM.isStatic = true := Cond.static_spec hnamed hmethM hstat
  obtain ⟨kP, hkP, -⟩ := className_of_methodNamed hnamed
  have hinitP : kP.init = .initialized := Cond.initialized_spec (findClass_of_methodNamed hnamed) hkP hinit
  obtain ⟨vm₁, X₁, hstep₁⟩ := X.invokestatic hexec hown hlink hnamed hmethM hstatic hkP hinitP hy (g := g) hg (argsL := argsL) (rest := rest) (hlen _ hsigM) hstack hdg
  rcases hK m meth c ⟨T.setVm vm₁, locs, cells, slots⟩ { g with stack := rest } (.invokestatic index) mk argsL.toArray X₁ hg hsize hdg hW (X₁.named hnamed) (hpre vm₁ X₁.warmed) with ⟨v, B, X', hpost, hsteps⟩ | ⟨q, B, X', hpost, hsteps⟩
  · exact Or.inl ⟨v, vm₁, B, X₁.warmed, X', hpost, fun target h => hstep₁ _ fun acts => by rw [doInvoke_state]; exact hsteps.trans h⟩
  · exact Or.inr ⟨q, vm₁, B, X₁.warmed, X', hpost, hstep₁ _ fun acts => by rw [doInvoke_state]; exact hsteps⟩
theorem vx_callVW (X : Stand p l e R s m args below meth c T locs cells slots) (hexec : p.tables.exec = Jvm.exec) {own C : String} {index : Nat} {y : MethodName} {bytes : ByteArray} {maxL : Nat} {ret : Option FieldType} {hh : List (Nat × Nat × Nat × Nat)}
    (hown : s.vm.findClass own = some m.cls) (hlink : (Cond.methodLink own index y).before args s = true) (hinst : (Cond.instanceMethod y).before args s = true) (hsel : (Cond.selects C y y).before args s = true)
    (hcode : (Cond.codeWith y bytes maxL ret hh).before args s = true) (hy : y.cls ≠ "java/lang/invoke/MethodHandle" ∧ y.cls ≠ "java/lang/invoke/VarHandle")
    {W9 : Nat} {Pre : Pt → Array Value → Prop} {Post : Pt → Array Value → Option Value → Pt → Prop} (hK : Back l R p e below s args y 3 W9 Pre Post)
    {b : Addr} {cellB : Cell} (hcell : T.heap[b]? = some cellB) (hobj : cellB.vm.isStatics = false) (hcls : s.vm.findClass C = some cellB.cls)
    {g : JFrame} (hg : g.method = m) (hsize : g.locals.size = c.maxLocals) {argsL rest : List Value} (hlen : ∀ sig, parseMethodDescriptor y.desc = some sig → argsL.length = sig.parameters.length)
    (hstack : g.stack = argsL.reverse ++ .ref b :: rest) (hW : 2 * g.monitorRoom + (rest.map fun v => v.category).sum ≤ W9) (hdg : decode c.code g.pc = .ok (.invokevirtual index, 3))
    (hpre : ∀ vm₁, s.WarmedH vm₁ → Pre ⟨T.setVm vm₁, locs, cells, slots⟩ (Value.ref b :: argsL).toArray) :
    ∃ (v : Option Value) (vm₁ : Vm) (B : Pt), s.WarmedH vm₁ ∧ Stand p l e R s m args below meth c B.U B.locs B.cells B.slots ∧ Post ⟨T.setVm vm₁, locs, cells, slots⟩ (Value.ref b :: argsL).toArray v B ∧
      ∀ target, Steps p.tables e below (B.U.setTop { g with pc := g.pc + 3, stack := v.toList ++ rest }) target → Steps p.tables e below (T.setTop g) target := by
  obtain ⟨mk, methM, hnamed, hmethM, hstM, habM⟩ := Cond.instanceMethod_spec hinst
  obtain ⟨m8, methM', cM, hn8, hmethM', -, -, -, -, -, -, hsigM⟩ := Cond.codeWith_spec hcode
  cases Option.some.inj (hn8.symm.trans hnamed)
  cases hmethM.symm.trans hmethM'
  obtain ⟨c2, r2, m2, q1, q2, q3, q4, kP, hkP, hkPi⟩ := Cond.selects_spec hsel
  cases hcls.symm.trans q1
  cases (State.methodFound?_of_named hnamed hy).symm.trans q2
  cases hnamed.symm.trans q3
  have hselP : selectMethod e.platform s.vm cellB.cls mk = .method mk := by rw [Launch.admits_selectMethod X.admits]; exact q4
  obtain ⟨vm₁, X₁, hstep₁⟩ := X.invokevirtual hexec hown hlink hnamed hmethM hstM hkP hkPi hy (a := b) (cell := cellB) hcell
    (fun z h => by rw [h] at hobj; cases hobj) hselP hmethM habM hkP hkPi (g := g) hg (argsL := argsL) (rest := rest) (hlen _ hsigM) hstack hdg
  obtain ⟨v, B, X', hpost, hsteps⟩ := hK m meth c ⟨T.setVm vm₁, locs, cells, slots⟩ { g with stack := rest } (.invokevirtual index) mk (Value.ref b :: argsL).toArray X₁ hg hsize hdg hW (X₁.named hnamed) (hpre vm₁ X₁.warmed)
  exact ⟨v, vm₁, B, X₁.warmed, X', hpost, fun target h => hstep₁ _ fun acts => by rw [doInvoke_state]; exact hsteps.trans h⟩
abbrev vx_CVW (R : Room) (s : State) (args : Array Value) (own C : String) (index : Nat) (y : MethodName) (bytes : ByteArray) (maxL : Nat) (ret : Option FieldType) (hh : List (Nat × Nat × Nat × Nat)) (ws : List Cond) (rm : Room) (mc ms n : Nat) : Prop :=
  (rm.cells = mc ∧ rm.slots = ms ∧ rm.frames + 1 ≤ R.frames ∧ 8 + (maxL + 11) + rm.locals ≤ R.locals ∧ (∀ w ∈ ws, ∀ (a' : Array Value) (U : State), s.WarmedH U.vm → w.before a' U = true) ∧ Cond.codeWith y bytes maxL ret hh ∈ ws) ∧
  (Cond.codeWith y bytes maxL ret hh).before args s = true ∧ (Cond.initialized y.cls).before args s = true ∧ (y.cls ≠ "java/lang/invoke/MethodHandle" ∧ y.cls ≠ "java/lang/invoke/VarHandle") ∧
  (∀ sig, parseMethodDescriptor y.desc = some sig → n = sig.parameters.length) ∧ (Cond.methodLink own index y).before args s = true ∧ (Cond.instanceMethod y).before args s = true ∧ (Cond.selects C y y).before args s = true
theorem vx_cwVW {own C : String} {index maxL mc ms : Nat} {y : MethodName} {bytes : ByteArray} {ret : Option FieldType} {hh : List (Nat × Nat × Nat × Nat)} {Ts ws ws' : List Cond} {rm : Room} (n : Nat) (ht : ∀ w ∈ Ts, w.before args s = true) (hT : GoodIn Ts (wsV own index C y ws)) (hw : ws = Cond.codeWith y bytes maxL ret hh :: ws') (hrc : rm.cells = mc) (hrs : rm.slots = ms)
    (hd : y.cls = C ∧ y.cls ≠ "java/lang/invoke/MethodHandle" ∧ y.cls ≠ "java/lang/invoke/VarHandle" ∧ (parseMethodDescriptor y.desc).map (fun d => d.parameters.length) = some n) (hR : rm.frames + 1 ≤ R.frames ∧ 8 + (maxL + 11) + rm.locals ≤ R.locals) :
    vx_CVW R s args own C index y bytes maxL ret hh ws rm mc ms n := by
  obtain ⟨hC, hd⟩ := hd
  subst hC
  have ok : ∀ w ∈ wsV own index y.cls y ws, w.before args s = true := fun w h => ht w (hT w h).1
  have hG : GoodIn Ts ws := fun w h => hT w (by unfold wsV; exact List.mem_append_right _ h)
  have hc : Cond.codeWith y bytes maxL ret hh ∈ ws := by rw [hw]; exact List.mem_cons_self
  refine ⟨⟨hrc, hrs, hR.1, hR.2, pay_in ht hG, hc⟩, ht _ (hG _ hc).1, ok _ (by simp [wsV]), ⟨hd.1, hd.2.1⟩, fun sig h => ?_, ok _ (by simp [wsV]), ok _ (by simp [wsV]), ok _ (by simp [wsV])⟩
  have h2 := hd.2.2
  rw [h] at h2
  exact (Option.some.inj h2).symm
theorem vx_runVW {y : MethodName} {bytes cc : ByteArray} {maxL nL mc ms n index : Nat} {ret : Option FieldType} {hh : List (Nat × Nat × Nat × Nat)} {ws : List Cond} {rm : Room} {Pc : Array Value → State → Prop} {Qc : Array Value → State → Outcome → State → Prop} {free : Addr → Prop} {Ts : List Cond} {own C : String} {b : Addr} {As rest : List Value} {g : JFrame}
    (S : CallFix p m c cc nL s args Ts own) (hM : Met l y ws rm Pc Qc mc ms free) (cw : vx_CVW R s args own C index y bytes maxL ret hh ws rm mc ms n) (hp : PreV s H C b Pc As)
    (hg : g.method = m) (hn : As.length = n) (hsize : g.locals.size = nL) (hstack : g.stack = As.reverse ++ .ref b :: rest) (hW : 2 * g.monitorRoom + (rest.map fun v => v.category).sum ≤ 8) (hdg : decode cc g.pc = .ok (.invokevirtual index, 3)) (hf : cells + mc ≤ R.cells ∧ slots + ms ≤ R.slots) :
    va_Run p l e R s m args below meth c H locs cells slots mc ms g rest (Qc (Value.ref b :: As).toArray) free := by
  obtain ⟨⟨hrc, hrs, hfr, hlo, hws, hcw⟩, hcode, hini, hy, hlen, hl, hin, hse⟩ := cw
  have hK : Back l R p e below s args y 3 8 (PreOf R mc ms Pc) (PostOf Qc mc ms free) := va_backW (hh := hh) (bytes := bytes) (maxL := maxL) (ret := ret) hM hp.1 hrc hrs hfr hlo hws hcw (fun a' U hW => word_at hW (Or.inl (by first | rfl | simp [Cond.onTables, Cond.keeps, Cond.steady])) hini)
  obtain ⟨hx, hb, hml, ho, -⟩ := S
  obtain ⟨-, ⟨cellB, hcB, hoB, hclB⟩, hPc⟩ := hp
  intro T hT X
  obtain ⟨v, vm₁, ⟨U', l2, c2, s2⟩, hW₁, X', ⟨g', mk, t, L, e1, e2, hq, h1, hL, h2, h3⟩, st⟩ := vx_callVW X hx (C := C) (hh := hh) (bytes := bytes) (maxL := maxL) (ret := ret) ho hl hin hse hcode hy hK (by rw [hT]; exact hcB) hoB hclB hg (hsize.trans hml.symm) (argsL := As) (rest := rest) (fun sig h => hn.trans (hlen sig h)) hstack hW (by rw [hb]; exact hdg)
    (fun vm₁ hW₁ => ⟨hf.1, hf.2, hPc (T.setVm vm₁) hT hW₁⟩)
  dsimp only [Pt.U, Pt.locs, Pt.cells, Pt.slots] at X' e1 e2 h1 h2 h3 st
  subst h1; subst h2; subst h3
  exact ⟨v, (T.setVm vm₁).calling g' mk (Value.ref b :: As).toArray, t, U', L, hT, X', hL, e1, e2, hq, st⟩
section
variable {y : MethodName} {bytes cc : ByteArray} {maxL nL mc ms n index : Nat} {ret : Option FieldType} {ws : List Cond} {rm : Room} {Pc : Array Value → State → Prop} {Qc : Array Value → State → Outcome → State → Prop} {XC : String → State → State → Prop} {free : Addr → Prop} {Ts : List Cond} {own C : String} {b : Addr} {As rest : List Value} {g : JFrame}
theorem vx_runVX {hh : List (Nat × Nat × Nat × Nat)} (S : CallFix p m c cc nL s args Ts own) (hM : vx_Met l y ws rm Pc Qc XC mc ms free) (cw : vx_CVW R s args own C index y bytes maxL ret hh ws rm mc ms n) (hp : PreV s H C b Pc As)
    (hg : g.method = m) (hn : As.length = n) (hsize : g.locals.size = nL) (hstack : g.stack = As.reverse ++ .ref b :: rest) (hW : 2 * g.monitorRoom + (rest.map fun v => v.category).sum ≤ 8) (hdg : decode cc g.pc = .ok (.invokevirtual index, 3)) (hf : cells + mc ≤ R.cells ∧ slots + ms ≤ R.slots) :
    vx_Run p l e R s m args below meth c H locs cells slots mc ms g rest (Qc (Value.ref b :: As).toArray) XC free := by
  obtain ⟨⟨hrc, hrs, hfr, hlo, hws, hcw⟩, hcode, hini, hy, hlen, hl, hin, hse⟩ := cw
  have hK : vx_Back l R p e below s args y 3 8 (PreOf R mc ms Pc) (PostOf Qc mc ms free) (vx_Post XC mc ms free) := vx_backW (hh := hh) (bytes := bytes) (maxL := maxL) (ret := ret) hM hp.1 hrc hrs hfr hlo hws hcw (fun a' U hW => word_at hW (Or.inl (by first | rfl | simp [Cond.onTables, Cond.keeps, Cond.steady])) hini)
  obtain ⟨hx, hb, hml, ho, -⟩ := S
  obtain ⟨-, ⟨cellB, hcB, hoB, hclB⟩, hPc⟩ := hp
  intro T hT X
  rcases vx_callVX X hx (C := C) (hh := hh) (bytes := bytes) (maxL := maxL) (ret := ret) ho hl hin hse hcode hy hK (by rw [hT]; exact hcB) hoB hclB hg (hsize.trans hml.symm) (argsL := As) (rest := rest) (fun sig h => hn.trans (hlen sig h)) hstack hW (by rw [hb]; exact hdg)
    (fun vm₁ hW₁ => ⟨hf.1, hf.2, hPc (T.setVm vm₁) hT hW₁⟩) with ⟨v, vm₁, ⟨U', l2, c2, s2⟩, hW₁, X', ⟨g', mk, t, L, e1, e2, hq, h1, hL, h2, h3⟩, st⟩ | ⟨q, vm₁, ⟨U', l2, c2, s2⟩, hW₁, X', ⟨g', mk, t, L, E, ce, e1, e2, hq, hce, hcv, hcl, h1, hL, h2, h3⟩, st⟩
  · dsimp only [Pt.U, Pt.locs, Pt.cells, Pt.slots] at X' e1 e2 h1 h2 h3 st
    subst h1; subst h2; subst h3
    exact Or.inl ⟨v, (T.setVm vm₁).calling g' mk (Value.ref b :: As).toArray, t, U', L, hT, X', hL, e1, e2, hq, st⟩
  · dsimp only [Pt.U, Pt.locs, Pt.cells, Pt.slots] at X' e1 e2 h1 h2 h3 st hcl
    subst h1; subst h2; subst h3
    exact Or.inr ⟨q, (T.setVm vm₁).calling g' mk (Value.ref b :: As).toArray, t, U', L, E, ce, hT, X', hL, e1, e2, hq, hce, hcv, vx_cls hW₁ hcl, st⟩
theorem vx_runSX {hh : List (Nat × Nat × Nat × Nat)} (S : CallFix p m c cc nL s args Ts own) (hM : vx_Met l y ws rm Pc Qc XC mc ms free) (cw : vx_CSW R s args own index y bytes maxL ret hh ws rm mc ms n) (hp : PreS s H Pc As)
    (hg : g.method = m) (hn : As.length = n) (hsize : g.locals.size = nL) (hstack : g.stack = As.reverse ++ rest) (hW : 2 * g.monitorRoom + (rest.map fun v => v.category).sum ≤ 8) (hdg : decode cc g.pc = .ok (.invokestatic index, 3)) (hf : cells + mc ≤ R.cells ∧ slots + ms ≤ R.slots) :
    vx_Run p l e R s m args below meth c H locs cells slots mc ms g rest (Qc As.toArray) XC free := by
  obtain ⟨⟨hrc, hrs, hfr, hlo, hws, hcw⟩, hcode, hini, hy, hlen, hl, hstt⟩ := cw
  have hK : vx_Back l R p e below s args y 3 8 (PreOf R mc ms Pc) (PostOf Qc mc ms free) (vx_Post XC mc ms free) := vx_backW (hh := hh) (bytes := bytes) (maxL := maxL) (ret := ret) hM hp.1 hrc hrs hfr hlo hws hcw (fun a' U hW => word_at hW (Or.inl (by first | rfl | simp [Cond.onTables, Cond.keeps, Cond.steady])) hini)
  obtain ⟨hx, hb, hml, ho, -⟩ := S
  intro T hT X
  rcases vx_callSX X hx (hh := hh) (bytes := bytes) (maxL := maxL) (ret := ret) ho hl hstt hini hcode hy hK hg (hsize.trans hml.symm) (argsL := As) (rest := rest) (fun sig h => hn.trans (hlen sig h)) hstack hW (by rw [hb]; exact hdg)
    (fun vm₁ hW₁ => ⟨hf.1, hf.2, hp.2 (T.setVm vm₁) hT hW₁⟩) with ⟨v, vm₁, ⟨U', l2, c2, s2⟩, hW₁, X', ⟨g', mk, t, L, e1, e2, hq, h1, hL, h2, h3⟩, st⟩ | ⟨q, vm₁, ⟨U', l2, c2, s2⟩, hW₁, X', ⟨g', mk, t, L, E, ce, e1, e2, hq, hce, hcv, hcl, h1, hL, h2, h3⟩, st⟩
  · dsimp only [Pt.U, Pt.locs, Pt.cells, Pt.slots] at X' e1 e2 h1 h2 h3 st
    subst h1; subst h2; subst h3
    exact Or.inl ⟨v, (T.setVm vm₁).calling g' mk As.toArray, t, U', L, hT, X', hL, e1, e2, hq, st⟩
  · dsimp only [Pt.U, Pt.locs, Pt.cells, Pt.slots] at X' e1 e2 h1 h2 h3 st hcl
    subst h1; subst h2; subst h3
    exact Or.inr ⟨q, (T.setVm vm₁).calling g' mk As.toArray, t, U', L, E, ce, hT, X', hL, e1, e2, hq, hce, hcv, vx_cls hW₁ hcl, st⟩
end
end VXH
theorem vx_ofWH {l : Launch} {y : MethodName} {ws ws' : List Cond} {rm : Room} {Pc : Array Value → State → Prop} {Qc : Array Value → State → Outcome → State → Prop} {XC : String → State → State → Prop} {mc ms : Nat} {free : Addr → Prop} {cc : ByteArray} {maxL : Nat} {ret : Option FieldType} {hh : List (Nat × Nat × Nat × Nat)}
    (hy : plainName y.cls = true) (hw : ws = Cond.codeWith y cc maxL ret hh :: ws')
    (body : ∀ p e s m args below meth c s₁, BodyLoose p l y (headSpec ws rm) cc maxL ret e s m args below meth c s₁ → c.maxLocals = maxL → Pc args s →
      W p l e (headSpec ws rm).room s m args below meth c s.heap [] 0 0 (vx_MQ below Qc XC args s mc ms free) (entryFrame m args maxL)) : vx_Met l y ws rm Pc Qc XC mc ms free := by
  refine MetFree.of_bodyS (code := cc) (maxLocals := maxL) (ret := ret) hy ?_ ?_
  · intro args s m h hn
    obtain ⟨m9, meth, c, hn9, h1, h2, h3, h4, -, h5, h6, -⟩ := Cond.codeWith_spec (atoms_spec (ws := ws) h _ (by rw [hw]; exact List.mem_cons_self))
    cases hn.symm.trans hn9
    exact ⟨meth, c, h1, h2, h3, h4, h5, h6⟩
  · intro p e s m args below meth c s₁ B hml hP _
    have hh0 : s₁.heap = s.heap := by rw [B.state]; rfl
    obtain ⟨t, a1, o, b1, b2, b3⟩ := body p e s m args below meth c s₁ B hml hP s₁ hh0 (Stand.of_body B)
    exact ⟨t, o, a1, b1, b2, b3⟩
/-! ===== END ===== -/
end
section
def RX0 : String := "BlendRows$Layer"
def TX0 : u_T := fun k => match k with
  | 0 => ("BlendRows$Layer", "size", "I", true)
  | 1 => ("BlendRows$Layer", "backColours", "[I", true)
  | 2 => ("BlendRows$Layer", "backAlphas", "[I", true)
  | 3 => ("BlendRows$Layer", "colours", "[I", true)
  | 4 => ("BlendRows$Layer", "ownAlphas", "[I", true)
  | 5 => ("BlendRows$Layer", "shapes", "[I", true)
  | _ => ("BlendRows$Layer", "knocksOut", "Z", false)
def tyX0 : Nat → FieldType := fun k => match k with
  | 0 => .int
  | 1 => .array .int
  | 2 => .array .int
  | 3 => .array .int
  | 4 => .array .int
  | 5 => .array .int
  | _ => .boolean
abbrev wsX00 : List Cond := u_ws RX0 TX0 7
theorem nmX0 : ∀ a, a < 7 → ∀ b, b < 7 → a ≠ b → (TX0 a).2.1 ≠ (TX0 b).2.1 := by decide +kernel
theorem tyX0_ok : ∀ k, k < 7 → parseFieldDescriptor (TX0 k).2.2.1 = some (tyX0 k) := by decide +kernel
abbrev cX0_init : ByteArray := prog_2_method_1_code
def yX0_init : MethodName := ⟨RX0, "<init>", "(I)V"⟩
abbrev cX0_begin : ByteArray := prog_2_method_2_code
def yX0_begin : MethodName := ⟨RX0, "begin", "(LBlendRows$Layer;ZZ)V"⟩
abbrev cX0_colourAt : ByteArray := prog_2_method_3_code
def yX0_colourAt : MethodName := ⟨RX0, "colourAt", "(I)I"⟩
abbrev cX0_ownAlpha : ByteArray := prog_2_method_4_code
def yX0_ownAlpha : MethodName := ⟨RX0, "ownAlpha", "(I)I"⟩
abbrev cX0_shapeAt : ByteArray := prog_2_method_5_code
def yX0_shapeAt : MethodName := ⟨RX0, "shapeAt", "(I)I"⟩
abbrev cX0_wholeAlpha : ByteArray := prog_2_method_6_code
def yX0_wholeAlpha : MethodName := ⟨RX0, "wholeAlpha", "(I)I"⟩
abbrev cX0_put : ByteArray := prog_2_method_7_code
def yX0_put : MethodName := ⟨RX0, "put", "(IIIIII)V"⟩
abbrev cX0_result : ByteArray := prog_2_method_8_code
def yX0_result : MethodName := ⟨RX0, "result", "(I)I"⟩
abbrev cX0_resultBand : ByteArray := prog_2_method_9_code
def yX0_resultBand : MethodName := ⟨RX0, "resultBand", "(II)I"⟩
abbrev cX0_resultLum : ByteArray := prog_2_method_10_code
def yX0_resultLum : MethodName := ⟨RX0, "resultLum", "(I)I"⟩
def RX1 : String := "BlendRows$Modes"
def TX1 : u_T := fun k => match k with
  | _ => ("", "", "", false)
def tyX1 : Nat → FieldType := fun k => match k with
  | _ => .int
abbrev wsX10 : List Cond := u_ws RX1 TX1 0
theorem nmX1 : ∀ a, a < 0 → ∀ b, b < 0 → a ≠ b → (TX1 a).2.1 ≠ (TX1 b).2.1 := by decide +kernel
theorem tyX1_ok : ∀ k, k < 0 → parseFieldDescriptor (TX1 k).2.2.1 = some (tyX1 k) := by decide +kernel
abbrev cX1_ofBytes : ByteArray := prog_3_method_2_code
def yX1_ofBytes : MethodName := ⟨RX1, "ofBytes", "(III)I"⟩
abbrev cX1_ofColours : ByteArray := prog_3_method_3_code
def yX1_ofColours : MethodName := ⟨RX1, "ofColours", "(III)I"⟩
abbrev cX1_dodge : ByteArray := prog_3_method_4_code
def yX1_dodge : MethodName := ⟨RX1, "dodge", "(II)I"⟩
abbrev cX1_burn : ByteArray := prog_3_method_5_code
def yX1_burn : MethodName := ⟨RX1, "burn", "(II)I"⟩
abbrev cX1_hardLight : ByteArray := prog_3_method_6_code
def yX1_hardLight : MethodName := ⟨RX1, "hardLight", "(II)I"⟩
abbrev cX1_softLight : ByteArray := prog_3_method_7_code
def yX1_softLight : MethodName := ⟨RX1, "softLight", "(II)I"⟩
abbrev cX1_rootOf : ByteArray := prog_3_method_8_code
def yX1_rootOf : MethodName := ⟨RX1, "rootOf", "(I)I"⟩
abbrev cX1_lumOf : ByteArray := prog_3_method_9_code
def yX1_lumOf : MethodName := ⟨RX1, "lumOf", "(I)I"⟩
abbrev cX1_leastOf : ByteArray := prog_3_method_10_code
def yX1_leastOf : MethodName := ⟨RX1, "leastOf", "(III)I"⟩
abbrev cX1_mostOf : ByteArray := prog_3_method_11_code
def yX1_mostOf : MethodName := ⟨RX1, "mostOf", "(III)I"⟩
abbrev cX1_satOf : ByteArray := prog_3_method_12_code
def yX1_satOf : MethodName := ⟨RX1, "satOf", "(I)I"⟩
abbrev cX1_withSat : ByteArray := prog_3_method_13_code
def yX1_withSat : MethodName := ⟨RX1, "withSat", "(II)I"⟩
abbrev cX1_withLum : ByteArray := prog_3_method_14_code
def yX1_withLum : MethodName := ⟨RX1, "withLum", "(II)I"⟩
abbrev cX1_drawnIn : ByteArray := prog_3_method_15_code
def yX1_drawnIn : MethodName := ⟨RX1, "drawnIn", "(IIII)I"⟩
def RX2 : String := "BlendRows$Sums"
def TX2 : u_T := fun k => match k with
  | _ => ("", "", "", false)
def tyX2 : Nat → FieldType := fun k => match k with
  | _ => .int
abbrev wsX20 : List Cond := u_ws RX2 TX2 0
theorem nmX2 : ∀ a, a < 0 → ∀ b, b < 0 → a ≠ b → (TX2 a).2.1 ≠ (TX2 b).2.1 := by decide +kernel
theorem tyX2_ok : ∀ k, k < 0 → parseFieldDescriptor (TX2 k).2.2.1 = some (tyX2 k) := by decide +kernel
abbrev cX2_mul : ByteArray := prog_4_method_2_code
def yX2_mul : MethodName := ⟨RX2, "mul", "(II)I"⟩
abbrev cX2_union : ByteArray := prog_4_method_3_code
def yX2_union : MethodName := ⟨RX2, "union", "(II)I"⟩
abbrev cX2_within : ByteArray := prog_4_method_4_code
def yX2_within : MethodName := ⟨RX2, "within", "(I)I"⟩
abbrev cX2_nearest : ByteArray := prog_4_method_5_code
def yX2_nearest : MethodName := ⟨RX2, "nearest", "(II)I"⟩
abbrev cX2_bandOf : ByteArray := prog_4_method_6_code
def yX2_bandOf : MethodName := ⟨RX2, "bandOf", "(II)I"⟩
abbrev cX2_packed : ByteArray := prog_4_method_7_code
def yX2_packed : MethodName := ⟨RX2, "packed", "(III)I"⟩
abbrev cX2_lum : ByteArray := prog_4_method_8_code
def yX2_lum : MethodName := ⟨RX2, "lum", "(III)I"⟩
def RX3 : String := "BlendRows"
def TX3 : u_T := fun k => match k with
  | 0 => ("BlendRows", "width", "I", true)
  | 1 => ("BlendRows", "height", "I", true)
  | 2 => ("BlendRows", "points", "I", true)
  | 3 => ("BlendRows", "covers", "[I", true)
  | 4 => ("BlendRows", "maskBytes", "[I", true)
  | 5 => ("BlendRows", "layers", "[LBlendRows$Layer;", true)
  | 6 => ("BlendRows", "masked", "Z", false)
  | 7 => ("BlendRows", "paint", "I", false)
  | 8 => ("BlendRows", "stayingBands", "I", false)
  | 9 => ("BlendRows", "boundNow", "I", false)
  | 10 => ("BlendRows", "depth", "I", false)
  | 11 => ("BlendRows", "realGroups", "I", false)
  | _ => ("BlendRows", "made", "I", false)
def tyX3 : Nat → FieldType := fun k => match k with
  | 0 => .int
  | 1 => .int
  | 2 => .int
  | 3 => .array .int
  | 4 => .array .int
  | 5 => .array (.object "BlendRows$Layer")
  | 6 => .boolean
  | 7 => .int
  | 8 => .int
  | 9 => .int
  | 10 => .int
  | 11 => .int
  | _ => .int
abbrev wsX30 : List Cond := u_ws RX3 TX3 13
theorem nmX3 : ∀ a, a < 13 → ∀ b, b < 13 → a ≠ b → (TX3 a).2.1 ≠ (TX3 b).2.1 := by decide +kernel
theorem tyX3_ok : ∀ k, k < 13 → parseFieldDescriptor (TX3 k).2.2.1 = some (tyX3 k) := by decide +kernel
abbrev cX3_init : ByteArray := prog_1_method_1_code
def yX3_init : MethodName := ⟨RX3, "<init>", "(II)V"⟩
abbrev cX3_told : ByteArray := prog_1_method_2_code
def yX3_told : MethodName := ⟨RX3, "told", "(I)I"⟩
abbrev cX3_bound : ByteArray := prog_1_method_3_code
def yX3_bound : MethodName := ⟨RX3, "bound", "(I)V"⟩
abbrev cX3_group : ByteArray := prog_1_method_4_code
def yX3_group : MethodName := ⟨RX3, "group", "(ZZ)I"⟩
abbrev cX3_end : ByteArray := prog_1_method_5_code
def yX3_end : MethodName := ⟨RX3, "end", "(II)I"⟩
abbrev cX3_mask : ByteArray := prog_1_method_6_code
def yX3_mask : MethodName := ⟨RX3, "mask", "(IZ)I"⟩
abbrev cX3_unmask : ByteArray := prog_1_method_7_code
def yX3_unmask : MethodName := ⟨RX3, "unmask", "()V"⟩
abbrev cX3_colour : ByteArray := prog_1_method_8_code
def yX3_colour : MethodName := ⟨RX3, "colour", "(II)V"⟩
abbrev cX3_stays : ByteArray := prog_1_method_9_code
def yX3_stays : MethodName := ⟨RX3, "stays", "(IZ)V"⟩
abbrev cX3_cover : ByteArray := prog_1_method_10_code
def yX3_cover : MethodName := ⟨RX3, "cover", "(III)V"⟩
abbrev cX3_fill : ByteArray := prog_1_method_11_code
def yX3_fill : MethodName := ⟨RX3, "fill", "(IIIII)V"⟩
abbrev cX3_mark : ByteArray := prog_1_method_12_code
def yX3_mark : MethodName := ⟨RX3, "mark", "(III)I"⟩
abbrev cX3_point : ByteArray := prog_1_method_13_code
def yX3_point : MethodName := ⟨RX3, "point", "(III)I"⟩
abbrev cX3_alpha : ByteArray := prog_1_method_14_code
def yX3_alpha : MethodName := ⟨RX3, "alpha", "(III)I"⟩
abbrev cX3_paper : ByteArray := prog_1_method_15_code
def yX3_paper : MethodName := ⟨RX3, "paper", "(III)I"⟩
abbrev cX3_separable : ByteArray := prog_1_method_16_code
def yX3_separable : MethodName := ⟨RX3, "separable", "(III)I"⟩
abbrev cX3_blend : ByteArray := prog_1_method_17_code
def yX3_blend : MethodName := ⟨RX3, "blend", "(III)I"⟩
abbrev cX3_hereIsFlat : ByteArray := prog_1_method_18_code
def yX3_hereIsFlat : MethodName := ⟨RX3, "hereIsFlat", "()Z"⟩
abbrev cX3_here : ByteArray := prog_1_method_19_code
def yX3_here : MethodName := ⟨RX3, "here", "()LBlendRows$Layer;"⟩
abbrev cX3_leave : ByteArray := prog_1_method_20_code
def yX3_leave : MethodName := ⟨RX3, "leave", "()LBlendRows$Layer;"⟩
abbrev cX3_leftByMask : ByteArray := prog_1_method_21_code
def yX3_leftByMask : MethodName := ⟨RX3, "leftByMask", "(II)I"⟩
abbrev cX3_needGroup : ByteArray := prog_1_method_22_code
def yX3_needGroup : MethodName := ⟨RX3, "needGroup", "()V"⟩
abbrev cX3_needPoint : ByteArray := prog_1_method_23_code
def yX3_needPoint : MethodName := ⟨RX3, "needPoint", "(II)V"⟩
abbrev cX3_needBand : ByteArray := prog_1_method_24_code
def yX3_needBand : MethodName := ⟨RX3, "needBand", "(I)V"⟩
abbrev cX3_needByte : ByteArray := prog_1_method_25_code
def yX3_needByte : MethodName := ⟨RX3, "needByte", "(I)V"⟩
abbrev cX3_needColour : ByteArray := prog_1_method_26_code
def yX3_needColour : MethodName := ⟨RX3, "needColour", "(I)V"⟩
abbrev cX3_needMode : ByteArray := prog_1_method_27_code
def yX3_needMode : MethodName := ⟨RX3, "needMode", "(II)V"⟩
def RX4 : String := "BlendRowsModel"
def TX4 : u_T := fun k => match k with
  | 0 => ("BlendRowsModel", "thrown", "I", false)
  | 1 => ("BlendRowsModel", "width", "I", true)
  | 2 => ("BlendRowsModel", "height", "I", true)
  | 3 => ("BlendRowsModel", "bound", "I", false)
  | 4 => ("BlendRowsModel", "depth", "I", false)
  | 5 => ("BlendRowsModel", "placeOf", "[I", true)
  | 6 => ("BlendRowsModel", "groups", "I", false)
  | 7 => ("BlendRowsModel", "knocks", "[Z", true)
  | 8 => ("BlendRowsModel", "backColour", "[I", true)
  | 9 => ("BlendRowsModel", "backAlpha", "[I", true)
  | 10 => ("BlendRowsModel", "colours", "[I", true)
  | 11 => ("BlendRowsModel", "own", "[I", true)
  | 12 => ("BlendRowsModel", "shapes", "[I", true)
  | 13 => ("BlendRowsModel", "hasMask", "Z", false)
  | 14 => ("BlendRowsModel", "maskBytes", "[I", true)
  | 15 => ("BlendRowsModel", "covers", "[I", true)
  | 16 => ("BlendRowsModel", "set", "[I", true)
  | 17 => ("BlendRowsModel", "stay", "[Z", true)
  | 18 => ("BlendRowsModel", "elements", "I", false)
  | 19 => ("BlendRowsModel", "top", "[I", true)
  | 20 => ("BlendRowsModel", "below", "[I", true)
  | 21 => ("BlendRowsModel", "made", "[I", true)
  | _ => ("BlendRowsModel", "some", "[I", true)
def tyX4 : Nat → FieldType := fun k => match k with
  | 0 => .int
  | 1 => .int
  | 2 => .int
  | 3 => .int
  | 4 => .int
  | 5 => .array .int
  | 6 => .int
  | 7 => .array .boolean
  | 8 => .array .int
  | 9 => .array .int
  | 10 => .array .int
  | 11 => .array .int
  | 12 => .array .int
  | 13 => .boolean
  | 14 => .array .int
  | 15 => .array .int
  | 16 => .array .int
  | 17 => .array .boolean
  | 18 => .int
  | 19 => .array .int
  | 20 => .array .int
  | 21 => .array .int
  | _ => .array .int
abbrev wsX40 : List Cond := u_ws RX4 TX4 23
theorem nmX4 : ∀ a, a < 23 → ∀ b, b < 23 → a ≠ b → (TX4 a).2.1 ≠ (TX4 b).2.1 := by decide +kernel
theorem tyX4_ok : ∀ k, k < 23 → parseFieldDescriptor (TX4 k).2.2.1 = some (tyX4 k) := by decide +kernel
abbrev cX4_init : ByteArray := prog_6_method_1_code
def yX4_init : MethodName := ⟨RX4, "<init>", "(II)V"⟩
abbrev cX4_thrown : ByteArray := prog_6_method_2_code
def yX4_thrown : MethodName := ⟨RX4, "thrown", "()I"⟩
abbrev cX4_mul : ByteArray := prog_6_method_3_code
def yX4_mul : MethodName := ⟨RX4, "mul", "(II)I"⟩
abbrev cX4_isByte : ByteArray := prog_6_method_4_code
def yX4_isByte : MethodName := ⟨RX4, "isByte", "(I)Z"⟩
abbrev cX4_isPoint : ByteArray := prog_6_method_5_code
def yX4_isPoint : MethodName := ⟨RX4, "isPoint", "(II)Z"⟩
abbrev cX4_isBand : ByteArray := prog_6_method_6_code
def yX4_isBand : MethodName := ⟨RX4, "isBand", "(I)Z"⟩
abbrev cX4_dodge : ByteArray := prog_6_method_7_code
def yX4_dodge : MethodName := ⟨RX4, "dodge", "(II)I"⟩
abbrev cX4_burn : ByteArray := prog_6_method_8_code
def yX4_burn : MethodName := ⟨RX4, "burn", "(II)I"⟩
abbrev cX4_hard : ByteArray := prog_6_method_9_code
def yX4_hard : MethodName := ⟨RX4, "hard", "(II)I"⟩
abbrev cX4_soft : ByteArray := prog_6_method_10_code
def yX4_soft : MethodName := ⟨RX4, "soft", "(II)I"⟩
abbrev cX4_ofBytes : ByteArray := prog_6_method_11_code
def yX4_ofBytes : MethodName := ⟨RX4, "ofBytes", "(III)I"⟩
abbrev cX4_down : ByteArray := prog_6_method_12_code
def yX4_down : MethodName := ⟨RX4, "down", "(II)I"⟩
abbrev cX4_lum : ByteArray := prog_6_method_13_code
def yX4_lum : MethodName := ⟨RX4, "lum", "([I)I"⟩
abbrev cX4_least : ByteArray := prog_6_method_14_code
def yX4_least : MethodName := ⟨RX4, "least", "([I)I"⟩
abbrev cX4_greatest : ByteArray := prog_6_method_15_code
def yX4_greatest : MethodName := ⟨RX4, "greatest", "([I)I"⟩
abbrev cX4_sat : ByteArray := prog_6_method_16_code
def yX4_sat : MethodName := ⟨RX4, "sat", "([I)I"⟩
abbrev cX4_setSat : ByteArray := prog_6_method_17_code
def yX4_setSat : MethodName := ⟨RX4, "setSat", "(I)V"⟩
abbrev cX4_setLum : ByteArray := prog_6_method_18_code
def yX4_setLum : MethodName := ⟨RX4, "setLum", "(I)V"⟩
abbrev cX4_copy : ByteArray := prog_6_method_19_code
def yX4_copy : MethodName := ⟨RX4, "copy", "([I)V"⟩
abbrev cX4_mix : ByteArray := prog_6_method_20_code
def yX4_mix : MethodName := ⟨RX4, "mix", "(I)V"⟩
abbrev cX4_here : ByteArray := prog_6_method_21_code
def yX4_here : MethodName := ⟨RX4, "here", "()I"⟩
abbrev cX4_alphaOf : ByteArray := prog_6_method_22_code
def yX4_alphaOf : MethodName := ⟨RX4, "alphaOf", "(II)I"⟩
abbrev cX4_leaves : ByteArray := prog_6_method_23_code
def yX4_leaves : MethodName := ⟨RX4, "leaves", "(II)I"⟩
abbrev cX4_put : ByteArray := prog_6_method_24_code
def yX4_put : MethodName := ⟨RX4, "put", "(IIIII)V"⟩
abbrev cX4_result : ByteArray := prog_6_method_25_code
def yX4_result : MethodName := ⟨RX4, "result", "(II)V"⟩
abbrev cX4_pointAt : ByteArray := prog_6_method_26_code
def yX4_pointAt : MethodName := ⟨RX4, "pointAt", "(II)I"⟩
abbrev cX4_told : ByteArray := prog_6_method_27_code
def yX4_told : MethodName := ⟨RX4, "told", "(I)I"⟩
abbrev cX4_bound : ByteArray := prog_6_method_28_code
def yX4_bound : MethodName := ⟨RX4, "bound", "(I)V"⟩
abbrev cX4_group : ByteArray := prog_6_method_29_code
def yX4_group : MethodName := ⟨RX4, "group", "(ZZ)I"⟩
abbrev cX4_leave : ByteArray := prog_6_method_30_code
def yX4_leave : MethodName := ⟨RX4, "leave", "()I"⟩
abbrev cX4_end : ByteArray := prog_6_method_31_code
def yX4_end : MethodName := ⟨RX4, "end", "(II)I"⟩
abbrev cX4_mask : ByteArray := prog_6_method_32_code
def yX4_mask : MethodName := ⟨RX4, "mask", "(IZ)I"⟩
abbrev cX4_unmask : ByteArray := prog_6_method_33_code
def yX4_unmask : MethodName := ⟨RX4, "unmask", "()V"⟩
abbrev cX4_colour : ByteArray := prog_6_method_34_code
def yX4_colour : MethodName := ⟨RX4, "colour", "(II)V"⟩
abbrev cX4_stays : ByteArray := prog_6_method_35_code
def yX4_stays : MethodName := ⟨RX4, "stays", "(IZ)V"⟩
abbrev cX4_cover : ByteArray := prog_6_method_36_code
def yX4_cover : MethodName := ⟨RX4, "cover", "(III)V"⟩
abbrev cX4_fill : ByteArray := prog_6_method_37_code
def yX4_fill : MethodName := ⟨RX4, "fill", "(IIIII)V"⟩
abbrev cX4_mark : ByteArray := prog_6_method_38_code
def yX4_mark : MethodName := ⟨RX4, "mark", "(III)I"⟩
abbrev cX4_point : ByteArray := prog_6_method_39_code
def yX4_point : MethodName := ⟨RX4, "point", "(III)I"⟩
abbrev cX4_alpha : ByteArray := prog_6_method_40_code
def yX4_alpha : MethodName := ⟨RX4, "alpha", "(III)I"⟩
abbrev cX4_paper : ByteArray := prog_6_method_41_code
def yX4_paper : MethodName := ⟨RX4, "paper", "(III)I"⟩
abbrev cX4_separable : ByteArray := prog_6_method_42_code
def yX4_separable : MethodName := ⟨RX4, "separable", "(III)I"⟩
abbrev cX4_blend : ByteArray := prog_6_method_43_code
def yX4_blend : MethodName := ⟨RX4, "blend", "(III)I"⟩
def RJx00060 : String := "java/lang/ArrayIndexOutOfBoundsException"
def TJx00060 : u_T := fun k => match k with
  | 0 => ("java/lang/Throwable", "cause", "Ljava/lang/Throwable;", false)
  | 1 => ("java/lang/Throwable", "stackTrace", "[Ljava/lang/StackTraceElement;", false)
  | 2 => ("java/lang/Throwable", "suppressedExceptions", "Ljava/util/List;", false)
  | 3 => ("java/lang/Throwable", "detailMessage", "Ljava/lang/String;", false)
  | 4 => ("java/lang/Throwable", "backtrace", "Ljava/lang/Object;", false)
  | _ => ("java/lang/Throwable", "depth", "I", false)
def tyJx00060 : Nat → FieldType := fun k => match k with
  | 0 => .object "java/lang/Throwable"
  | 1 => .array (.object "java/lang/StackTraceElement")
  | 2 => .object "java/util/List"
  | 3 => .object "java/lang/String"
  | 4 => .object "java/lang/Object"
  | _ => .int
abbrev wsJx000600 : List Cond := u_ws RJx00060 TJx00060 6
theorem nmJx00060 : ∀ a, a < 6 → ∀ b, b < 6 → a ≠ b → (TJx00060 a).2.1 ≠ (TJx00060 b).2.1 := by decide +kernel
theorem tyJx00060_ok : ∀ k, k < 6 → parseFieldDescriptor (TJx00060 k).2.2.1 = some (tyJx00060 k) := by decide +kernel
abbrev cJx00060_init_a7421 : ByteArray := prog_7_method_2_code
def yJx00060_init_a7421 : MethodName := ⟨RJx00060, "<init>", "(Ljava/lang/String;)V"⟩
def RJ9 : String := "java/lang/Math"
def TJ9 : u_T := fun k => match k with
  | _ => ("", "", "", false)
def tyJ9 : Nat → FieldType := fun k => match k with
  | _ => .int
abbrev wsJ90 : List Cond := u_ws RJ9 TJ9 0
theorem nmJ9 : ∀ a, a < 0 → ∀ b, b < 0 → a ≠ b → (TJ9 a).2.1 ≠ (TJ9 b).2.1 := by decide +kernel
theorem tyJ9_ok : ∀ k, k < 0 → parseFieldDescriptor (TJ9 k).2.2.1 = some (tyJ9 k) := by decide +kernel
abbrev cJ9_floorDiv_7cf53 : ByteArray := prog_12_method_47_code
def yJ9_floorDiv_7cf53 : MethodName := ⟨RJ9, "floorDiv", "(II)I"⟩
abbrev cJ9_max_7cf53 : ByteArray := prog_12_method_65_code
def yJ9_max_7cf53 : MethodName := ⟨RJ9, "max", "(II)I"⟩
abbrev cJ9_min_7cf53 : ByteArray := prog_12_method_69_code
def yJ9_min_7cf53 : MethodName := ⟨RJ9, "min", "(II)I"⟩
def RJ0 : String := "java/lang/String"
def TJ0 : u_T := fun k => match k with
  | _ => ("", "", "", false)
def tyJ0 : Nat → FieldType := fun k => match k with
  | _ => .int
abbrev wsJ00 : List Cond := u_ws RJ0 TJ0 0
theorem nmJ0 : ∀ a, a < 0 → ∀ b, b < 0 → a ≠ b → (TJ0 a).2.1 ≠ (TJ0 b).2.1 := by decide +kernel
theorem tyJ0_ok : ∀ k, k < 0 → parseFieldDescriptor (TJ0 k).2.2.1 = some (tyJ0 k) := by decide +kernel
def RL : String := "BlendRowsLaw"
abbrev cL_cell : ByteArray := method_2_code
def yL_cell : MethodName := ⟨RL, "cell", "([II)I"⟩
abbrev cL_told : ByteArray := method_3_code
def yL_told : MethodName := ⟨RL, "told", "(LBlendRows;I[J)I"⟩
abbrev cL_bound : ByteArray := method_4_code
def yL_bound : MethodName := ⟨RL, "bound", "(LBlendRows;I)I"⟩
abbrev cL_group : ByteArray := method_5_code
def yL_group : MethodName := ⟨RL, "group", "(LBlendRows;ZZ[J)I"⟩
abbrev cL_end : ByteArray := method_6_code
def yL_end : MethodName := ⟨RL, "end", "(LBlendRows;II[J)I"⟩
abbrev cL_mask : ByteArray := method_7_code
def yL_mask : MethodName := ⟨RL, "mask", "(LBlendRows;IZ[J)I"⟩
abbrev cL_colour : ByteArray := method_8_code
def yL_colour : MethodName := ⟨RL, "colour", "(LBlendRows;II)I"⟩
abbrev cL_stays : ByteArray := method_9_code
def yL_stays : MethodName := ⟨RL, "stays", "(LBlendRows;IZ)I"⟩
abbrev cL_cover : ByteArray := method_10_code
def yL_cover : MethodName := ⟨RL, "cover", "(LBlendRows;III)I"⟩
abbrev cL_fill : ByteArray := method_11_code
def yL_fill : MethodName := ⟨RL, "fill", "(LBlendRows;IIIII)I"⟩
abbrev cL_mark : ByteArray := method_12_code
def yL_mark : MethodName := ⟨RL, "mark", "(LBlendRows;III[J)I"⟩
abbrev cL_point : ByteArray := method_13_code
def yL_point : MethodName := ⟨RL, "point", "(LBlendRows;III[J)I"⟩
abbrev cL_alpha : ByteArray := method_14_code
def yL_alpha : MethodName := ⟨RL, "alpha", "(LBlendRows;III[J)I"⟩
abbrev cL_paper : ByteArray := method_15_code
def yL_paper : MethodName := ⟨RL, "paper", "(LBlendRows;III[J)I"⟩
abbrev cL_separable : ByteArray := method_16_code
def yL_separable : MethodName := ⟨RL, "separable", "(LBlendRows;III[J)I"⟩
abbrev cL_blend : ByteArray := method_17_code
def yL_blend : MethodName := ⟨RL, "blend", "(LBlendRows;III[J)I"⟩
abbrev cL_law : ByteArray := code
def yL_law : MethodName := ⟨RL, "law", "([I)Z"⟩
abbrev vwCl : List vw_C := [(RJx00060, TJx00060, 6), (RX0, TX0, 7), (RX3, TX3, 13), (RX4, TX4, 23)]
end
section
theorem dX0_init_0 : decode cX0_init 0 = .ok (.aload_n 0, 1) := by decide +kernel
theorem dX0_init_1 : decode cX0_init 1 = .ok (.invokespecial 3, 3) := by decide +kernel
theorem dX0_init_4 : decode cX0_init 4 = .ok (.aload_n 0, 1) := by decide +kernel
theorem dX0_init_5 : decode cX0_init 5 = .ok (.iload_n 1, 1) := by decide +kernel
theorem dX0_init_6 : decode cX0_init 6 = .ok (.putfield 9, 3) := by decide +kernel
theorem dX0_init_9 : decode cX0_init 9 = .ok (.aload_n 0, 1) := by decide +kernel
theorem dX0_init_10 : decode cX0_init 10 = .ok (.iload_n 1, 1) := by decide +kernel
theorem dX0_init_11 : decode cX0_init 11 = .ok (.newarray .int, 2) := by decide +kernel
theorem dX0_init_13 : decode cX0_init 13 = .ok (.putfield 15, 3) := by decide +kernel
theorem dX0_init_16 : decode cX0_init 16 = .ok (.aload_n 0, 1) := by decide +kernel
theorem dX0_init_17 : decode cX0_init 17 = .ok (.iload_n 1, 1) := by decide +kernel
theorem dX0_init_18 : decode cX0_init 18 = .ok (.newarray .int, 2) := by decide +kernel
theorem dX0_init_20 : decode cX0_init 20 = .ok (.putfield 19, 3) := by decide +kernel
theorem dX0_init_23 : decode cX0_init 23 = .ok (.aload_n 0, 1) := by decide +kernel
theorem dX0_init_24 : decode cX0_init 24 = .ok (.iload_n 1, 1) := by decide +kernel
theorem dX0_init_25 : decode cX0_init 25 = .ok (.newarray .int, 2) := by decide +kernel
theorem dX0_init_27 : decode cX0_init 27 = .ok (.putfield 22, 3) := by decide +kernel
theorem dX0_init_30 : decode cX0_init 30 = .ok (.aload_n 0, 1) := by decide +kernel
theorem dX0_init_31 : decode cX0_init 31 = .ok (.iload_n 1, 1) := by decide +kernel
theorem dX0_init_32 : decode cX0_init 32 = .ok (.newarray .int, 2) := by decide +kernel
theorem dX0_init_34 : decode cX0_init 34 = .ok (.putfield 25, 3) := by decide +kernel
theorem dX0_init_37 : decode cX0_init 37 = .ok (.aload_n 0, 1) := by decide +kernel
theorem dX0_init_38 : decode cX0_init 38 = .ok (.iload_n 1, 1) := by decide +kernel
theorem dX0_init_39 : decode cX0_init 39 = .ok (.newarray .int, 2) := by decide +kernel
theorem dX0_init_41 : decode cX0_init 41 = .ok (.putfield 28, 3) := by decide +kernel
theorem dX0_init_44 : decode cX0_init 44 = .ok (.return_, 1) := by decide +kernel
theorem dX0_begin_0 : decode cX0_begin 0 = .ok (.aload_n 0, 1) := by decide +kernel
theorem dX0_begin_1 : decode cX0_begin 1 = .ok (.iload_n 3, 1) := by decide +kernel
theorem dX0_begin_2 : decode cX0_begin 2 = .ok (.putfield 31, 3) := by decide +kernel
theorem dX0_begin_5 : decode cX0_begin 5 = .ok (.iconst 0, 1) := by decide +kernel
theorem dX0_begin_6 : decode cX0_begin 6 = .ok (.istore 4, 2) := by decide +kernel
theorem dX0_begin_8 : decode cX0_begin 8 = .ok (.iload 4, 2) := by decide +kernel
theorem dX0_begin_10 : decode cX0_begin 10 = .ok (.aload_n 0, 1) := by decide +kernel
theorem dX0_begin_11 : decode cX0_begin 11 = .ok (.getfield 9, 3) := by decide +kernel
theorem dX0_begin_14 : decode cX0_begin 14 = .ok (.if_icmp .ge 81, 3) := by decide +kernel
theorem dX0_begin_17 : decode cX0_begin 17 = .ok (.aload_n 0, 1) := by decide +kernel
theorem dX0_begin_18 : decode cX0_begin 18 = .ok (.getfield 15, 3) := by decide +kernel
theorem dX0_begin_21 : decode cX0_begin 21 = .ok (.iload 4, 2) := by decide +kernel
theorem dX0_begin_23 : decode cX0_begin 23 = .ok (.iload_n 2, 1) := by decide +kernel
theorem dX0_begin_24 : decode cX0_begin 24 = .ok (.ifCond .eq 7, 3) := by decide +kernel
theorem dX0_begin_27 : decode cX0_begin 27 = .ok (.iconst 0, 1) := by decide +kernel
theorem dX0_begin_28 : decode cX0_begin 28 = .ok (.goto 9, 3) := by decide +kernel
theorem dX0_begin_31 : decode cX0_begin 31 = .ok (.aload_n 1, 1) := by decide +kernel
theorem dX0_begin_32 : decode cX0_begin 32 = .ok (.iload 4, 2) := by decide +kernel
theorem dX0_begin_34 : decode cX0_begin 34 = .ok (.invokevirtual 35, 3) := by decide +kernel
theorem dX0_begin_37 : decode cX0_begin 37 = .ok (.iastore, 1) := by decide +kernel
theorem dX0_begin_38 : decode cX0_begin 38 = .ok (.aload_n 0, 1) := by decide +kernel
theorem dX0_begin_39 : decode cX0_begin 39 = .ok (.getfield 19, 3) := by decide +kernel
theorem dX0_begin_42 : decode cX0_begin 42 = .ok (.iload 4, 2) := by decide +kernel
theorem dX0_begin_44 : decode cX0_begin 44 = .ok (.iload_n 2, 1) := by decide +kernel
theorem dX0_begin_45 : decode cX0_begin 45 = .ok (.ifCond .eq 7, 3) := by decide +kernel
theorem dX0_begin_48 : decode cX0_begin 48 = .ok (.iconst 0, 1) := by decide +kernel
theorem dX0_begin_49 : decode cX0_begin 49 = .ok (.goto 9, 3) := by decide +kernel
theorem dX0_begin_52 : decode cX0_begin 52 = .ok (.aload_n 1, 1) := by decide +kernel
theorem dX0_begin_53 : decode cX0_begin 53 = .ok (.iload 4, 2) := by decide +kernel
theorem dX0_begin_55 : decode cX0_begin 55 = .ok (.invokevirtual 39, 3) := by decide +kernel
theorem dX0_begin_58 : decode cX0_begin 58 = .ok (.iastore, 1) := by decide +kernel
theorem dX0_begin_59 : decode cX0_begin 59 = .ok (.aload_n 0, 1) := by decide +kernel
theorem dX0_begin_60 : decode cX0_begin 60 = .ok (.getfield 22, 3) := by decide +kernel
theorem dX0_begin_63 : decode cX0_begin 63 = .ok (.iload 4, 2) := by decide +kernel
theorem dX0_begin_65 : decode cX0_begin 65 = .ok (.aload_n 0, 1) := by decide +kernel
theorem dX0_begin_66 : decode cX0_begin 66 = .ok (.getfield 15, 3) := by decide +kernel
theorem dX0_begin_69 : decode cX0_begin 69 = .ok (.iload 4, 2) := by decide +kernel
theorem dX0_begin_71 : decode cX0_begin 71 = .ok (.iaload, 1) := by decide +kernel
theorem dX0_begin_72 : decode cX0_begin 72 = .ok (.iastore, 1) := by decide +kernel
theorem dX0_begin_73 : decode cX0_begin 73 = .ok (.aload_n 0, 1) := by decide +kernel
theorem dX0_begin_74 : decode cX0_begin 74 = .ok (.getfield 25, 3) := by decide +kernel
theorem dX0_begin_77 : decode cX0_begin 77 = .ok (.iload 4, 2) := by decide +kernel
theorem dX0_begin_79 : decode cX0_begin 79 = .ok (.iconst 0, 1) := by decide +kernel
theorem dX0_begin_80 : decode cX0_begin 80 = .ok (.iastore, 1) := by decide +kernel
theorem dX0_begin_81 : decode cX0_begin 81 = .ok (.aload_n 0, 1) := by decide +kernel
theorem dX0_begin_82 : decode cX0_begin 82 = .ok (.getfield 28, 3) := by decide +kernel
theorem dX0_begin_85 : decode cX0_begin 85 = .ok (.iload 4, 2) := by decide +kernel
theorem dX0_begin_87 : decode cX0_begin 87 = .ok (.iconst 0, 1) := by decide +kernel
theorem dX0_begin_88 : decode cX0_begin 88 = .ok (.iastore, 1) := by decide +kernel
theorem dX0_begin_89 : decode cX0_begin 89 = .ok (.iinc 4 1, 3) := by decide +kernel
theorem dX0_begin_92 : decode cX0_begin 92 = .ok (.goto (-84), 3) := by decide +kernel
theorem dX0_begin_95 : decode cX0_begin 95 = .ok (.return_, 1) := by decide +kernel
theorem dX0_colourAt_0 : decode cX0_colourAt 0 = .ok (.aload_n 0, 1) := by decide +kernel
theorem dX0_colourAt_1 : decode cX0_colourAt 1 = .ok (.getfield 22, 3) := by decide +kernel
theorem dX0_colourAt_4 : decode cX0_colourAt 4 = .ok (.iload_n 1, 1) := by decide +kernel
theorem dX0_colourAt_5 : decode cX0_colourAt 5 = .ok (.iaload, 1) := by decide +kernel
theorem dX0_colourAt_6 : decode cX0_colourAt 6 = .ok (.ireturn, 1) := by decide +kernel
theorem dX0_ownAlpha_0 : decode cX0_ownAlpha 0 = .ok (.aload_n 0, 1) := by decide +kernel
theorem dX0_ownAlpha_1 : decode cX0_ownAlpha 1 = .ok (.getfield 25, 3) := by decide +kernel
theorem dX0_ownAlpha_4 : decode cX0_ownAlpha 4 = .ok (.iload_n 1, 1) := by decide +kernel
theorem dX0_ownAlpha_5 : decode cX0_ownAlpha 5 = .ok (.iaload, 1) := by decide +kernel
theorem dX0_ownAlpha_6 : decode cX0_ownAlpha 6 = .ok (.ireturn, 1) := by decide +kernel
theorem dX0_shapeAt_0 : decode cX0_shapeAt 0 = .ok (.aload_n 0, 1) := by decide +kernel
theorem dX0_shapeAt_1 : decode cX0_shapeAt 1 = .ok (.getfield 28, 3) := by decide +kernel
theorem dX0_shapeAt_4 : decode cX0_shapeAt 4 = .ok (.iload_n 1, 1) := by decide +kernel
theorem dX0_shapeAt_5 : decode cX0_shapeAt 5 = .ok (.iaload, 1) := by decide +kernel
theorem dX0_shapeAt_6 : decode cX0_shapeAt 6 = .ok (.ireturn, 1) := by decide +kernel
theorem dX0_wholeAlpha_0 : decode cX0_wholeAlpha 0 = .ok (.aload_n 0, 1) := by decide +kernel
theorem dX0_wholeAlpha_1 : decode cX0_wholeAlpha 1 = .ok (.getfield 19, 3) := by decide +kernel
theorem dX0_wholeAlpha_4 : decode cX0_wholeAlpha 4 = .ok (.iload_n 1, 1) := by decide +kernel
theorem dX0_wholeAlpha_5 : decode cX0_wholeAlpha 5 = .ok (.iaload, 1) := by decide +kernel
theorem dX0_wholeAlpha_6 : decode cX0_wholeAlpha 6 = .ok (.aload_n 0, 1) := by decide +kernel
theorem dX0_wholeAlpha_7 : decode cX0_wholeAlpha 7 = .ok (.getfield 25, 3) := by decide +kernel
theorem dX0_wholeAlpha_10 : decode cX0_wholeAlpha 10 = .ok (.iload_n 1, 1) := by decide +kernel
theorem dX0_wholeAlpha_11 : decode cX0_wholeAlpha 11 = .ok (.iaload, 1) := by decide +kernel
theorem dX0_wholeAlpha_12 : decode cX0_wholeAlpha 12 = .ok (.invokestatic 42, 3) := by decide +kernel
theorem dX0_wholeAlpha_15 : decode cX0_wholeAlpha 15 = .ok (.ireturn, 1) := by decide +kernel
theorem dX0_put_0 : decode cX0_put 0 = .ok (.iload_n 3, 1) := by decide +kernel
theorem dX0_put_1 : decode cX0_put 1 = .ok (.ifCond .ne 4, 3) := by decide +kernel
theorem dX0_put_4 : decode cX0_put 4 = .ok (.return_, 1) := by decide +kernel
theorem dX0_put_5 : decode cX0_put 5 = .ok (.aload_n 0, 1) := by decide +kernel
theorem dX0_put_6 : decode cX0_put 6 = .ok (.iload_n 1, 1) := by decide +kernel
theorem dX0_put_7 : decode cX0_put 7 = .ok (.invokevirtual 39, 3) := by decide +kernel
theorem dX0_put_10 : decode cX0_put 10 = .ok (.istore 7, 2) := by decide +kernel
theorem dX0_put_12 : decode cX0_put 12 = .ok (.aload_n 0, 1) := by decide +kernel
theorem dX0_put_13 : decode cX0_put 13 = .ok (.getfield 31, 3) := by decide +kernel
theorem dX0_put_16 : decode cX0_put 16 = .ok (.ifCond .eq 12, 3) := by decide +kernel
theorem dX0_put_19 : decode cX0_put 19 = .ok (.aload_n 0, 1) := by decide +kernel
theorem dX0_put_20 : decode cX0_put 20 = .ok (.getfield 15, 3) := by decide +kernel
theorem dX0_put_23 : decode cX0_put 23 = .ok (.iload_n 1, 1) := by decide +kernel
theorem dX0_put_24 : decode cX0_put 24 = .ok (.iaload, 1) := by decide +kernel
theorem dX0_put_25 : decode cX0_put 25 = .ok (.goto 9, 3) := by decide +kernel
theorem dX0_put_28 : decode cX0_put 28 = .ok (.aload_n 0, 1) := by decide +kernel
theorem dX0_put_29 : decode cX0_put 29 = .ok (.getfield 22, 3) := by decide +kernel
theorem dX0_put_32 : decode cX0_put 32 = .ok (.iload_n 1, 1) := by decide +kernel
theorem dX0_put_33 : decode cX0_put 33 = .ok (.iaload, 1) := by decide +kernel
theorem dX0_put_34 : decode cX0_put 34 = .ok (.istore 8, 2) := by decide +kernel
theorem dX0_put_36 : decode cX0_put 36 = .ok (.aload_n 0, 1) := by decide +kernel
theorem dX0_put_37 : decode cX0_put 37 = .ok (.getfield 31, 3) := by decide +kernel
theorem dX0_put_40 : decode cX0_put 40 = .ok (.ifCond .eq 12, 3) := by decide +kernel
theorem dX0_put_43 : decode cX0_put 43 = .ok (.aload_n 0, 1) := by decide +kernel
theorem dX0_put_44 : decode cX0_put 44 = .ok (.getfield 19, 3) := by decide +kernel
theorem dX0_put_47 : decode cX0_put 47 = .ok (.iload_n 1, 1) := by decide +kernel
theorem dX0_put_48 : decode cX0_put 48 = .ok (.iaload, 1) := by decide +kernel
theorem dX0_put_49 : decode cX0_put 49 = .ok (.goto 5, 3) := by decide +kernel
theorem dX0_put_52 : decode cX0_put 52 = .ok (.iload 7, 2) := by decide +kernel
theorem dX0_put_54 : decode cX0_put 54 = .ok (.istore 9, 2) := by decide +kernel
theorem dX0_put_56 : decode cX0_put 56 = .ok (.aload_n 0, 1) := by decide +kernel
theorem dX0_put_57 : decode cX0_put 57 = .ok (.getfield 31, 3) := by decide +kernel
theorem dX0_put_60 : decode cX0_put 60 = .ok (.ifCond .eq 7, 3) := by decide +kernel
theorem dX0_put_63 : decode cX0_put 63 = .ok (.iconst 0, 1) := by decide +kernel
theorem dX0_put_64 : decode cX0_put 64 = .ok (.goto 9, 3) := by decide +kernel
theorem dX0_put_67 : decode cX0_put 67 = .ok (.aload_n 0, 1) := by decide +kernel
theorem dX0_put_68 : decode cX0_put 68 = .ok (.getfield 25, 3) := by decide +kernel
theorem dX0_put_71 : decode cX0_put 71 = .ok (.iload_n 1, 1) := by decide +kernel
theorem dX0_put_72 : decode cX0_put 72 = .ok (.iaload, 1) := by decide +kernel
theorem dX0_put_73 : decode cX0_put 73 = .ok (.istore 10, 2) := by decide +kernel
theorem dX0_put_75 : decode cX0_put 75 = .ok (.aload_n 0, 1) := by decide +kernel
theorem dX0_put_76 : decode cX0_put 76 = .ok (.getfield 25, 3) := by decide +kernel
theorem dX0_put_79 : decode cX0_put 79 = .ok (.iload_n 1, 1) := by decide +kernel
theorem dX0_put_80 : decode cX0_put 80 = .ok (.sipush 255, 3) := by decide +kernel
theorem dX0_put_83 : decode cX0_put 83 = .ok (.iload_n 3, 1) := by decide +kernel
theorem dX0_put_84 : decode cX0_put 84 = .ok (.isub, 1) := by decide +kernel
theorem dX0_put_85 : decode cX0_put 85 = .ok (.aload_n 0, 1) := by decide +kernel
theorem dX0_put_86 : decode cX0_put 86 = .ok (.getfield 25, 3) := by decide +kernel
theorem dX0_put_89 : decode cX0_put 89 = .ok (.iload_n 1, 1) := by decide +kernel
theorem dX0_put_90 : decode cX0_put 90 = .ok (.iaload, 1) := by decide +kernel
theorem dX0_put_91 : decode cX0_put 91 = .ok (.imul, 1) := by decide +kernel
theorem dX0_put_92 : decode cX0_put 92 = .ok (.iload_n 3, 1) := by decide +kernel
theorem dX0_put_93 : decode cX0_put 93 = .ok (.iload 4, 2) := by decide +kernel
theorem dX0_put_95 : decode cX0_put 95 = .ok (.isub, 1) := by decide +kernel
theorem dX0_put_96 : decode cX0_put 96 = .ok (.iload 10, 2) := by decide +kernel
theorem dX0_put_98 : decode cX0_put 98 = .ok (.imul, 1) := by decide +kernel
theorem dX0_put_99 : decode cX0_put 99 = .ok (.iadd, 1) := by decide +kernel
theorem dX0_put_100 : decode cX0_put 100 = .ok (.sipush 255, 3) := by decide +kernel
theorem dX0_put_103 : decode cX0_put 103 = .ok (.iload 4, 2) := by decide +kernel
theorem dX0_put_105 : decode cX0_put 105 = .ok (.imul, 1) := by decide +kernel
theorem dX0_put_106 : decode cX0_put 106 = .ok (.iadd, 1) := by decide +kernel
theorem dX0_put_107 : decode cX0_put 107 = .ok (.bipush 127, 2) := by decide +kernel
theorem dX0_put_109 : decode cX0_put 109 = .ok (.iadd, 1) := by decide +kernel
theorem dX0_put_110 : decode cX0_put 110 = .ok (.sipush 255, 3) := by decide +kernel
theorem dX0_put_113 : decode cX0_put 113 = .ok (.idiv, 1) := by decide +kernel
theorem dX0_put_114 : decode cX0_put 114 = .ok (.iastore, 1) := by decide +kernel
theorem dX0_put_115 : decode cX0_put 115 = .ok (.aload_n 0, 1) := by decide +kernel
theorem dX0_put_116 : decode cX0_put 116 = .ok (.getfield 28, 3) := by decide +kernel
theorem dX0_put_119 : decode cX0_put 119 = .ok (.iload_n 1, 1) := by decide +kernel
theorem dX0_put_120 : decode cX0_put 120 = .ok (.aload_n 0, 1) := by decide +kernel
theorem dX0_put_121 : decode cX0_put 121 = .ok (.getfield 28, 3) := by decide +kernel
theorem dX0_put_124 : decode cX0_put 124 = .ok (.iload_n 1, 1) := by decide +kernel
theorem dX0_put_125 : decode cX0_put 125 = .ok (.iaload, 1) := by decide +kernel
theorem dX0_put_126 : decode cX0_put 126 = .ok (.iload_n 3, 1) := by decide +kernel
theorem dX0_put_127 : decode cX0_put 127 = .ok (.invokestatic 42, 3) := by decide +kernel
theorem dX0_put_130 : decode cX0_put 130 = .ok (.iastore, 1) := by decide +kernel
theorem dX0_put_131 : decode cX0_put 131 = .ok (.aload_n 0, 1) := by decide +kernel
theorem dX0_put_132 : decode cX0_put 132 = .ok (.iload_n 1, 1) := by decide +kernel
theorem dX0_put_133 : decode cX0_put 133 = .ok (.invokevirtual 39, 3) := by decide +kernel
theorem dX0_put_136 : decode cX0_put 136 = .ok (.istore 11, 2) := by decide +kernel
theorem dX0_put_138 : decode cX0_put 138 = .ok (.iload 11, 2) := by decide +kernel
theorem dX0_put_140 : decode cX0_put 140 = .ok (.ifCond .ne 4, 3) := by decide +kernel
theorem dX0_put_143 : decode cX0_put 143 = .ok (.return_, 1) := by decide +kernel
theorem dX0_put_144 : decode cX0_put 144 = .ok (.iload 5, 2) := by decide +kernel
theorem dX0_put_146 : decode cX0_put 146 = .ok (.iload 8, 2) := by decide +kernel
theorem dX0_put_148 : decode cX0_put 148 = .ok (.iload_n 2, 1) := by decide +kernel
theorem dX0_put_149 : decode cX0_put 149 = .ok (.invokestatic 48, 3) := by decide +kernel
theorem dX0_put_152 : decode cX0_put 152 = .ok (.istore 12, 2) := by decide +kernel
theorem dX0_put_154 : decode cX0_put 154 = .ok (.iconst 0, 1) := by decide +kernel
theorem dX0_put_155 : decode cX0_put 155 = .ok (.istore 13, 2) := by decide +kernel
theorem dX0_put_157 : decode cX0_put 157 = .ok (.iconst 0, 1) := by decide +kernel
theorem dX0_put_158 : decode cX0_put 158 = .ok (.istore 14, 2) := by decide +kernel
theorem dX0_put_160 : decode cX0_put 160 = .ok (.iload 14, 2) := by decide +kernel
theorem dX0_put_162 : decode cX0_put 162 = .ok (.iconst 3, 1) := by decide +kernel
theorem dX0_put_163 : decode cX0_put 163 = .ok (.if_icmp .ge 137, 3) := by decide +kernel
theorem dX0_put_166 : decode cX0_put 166 = .ok (.iload 8, 2) := by decide +kernel
theorem dX0_put_168 : decode cX0_put 168 = .ok (.iload 14, 2) := by decide +kernel
theorem dX0_put_170 : decode cX0_put 170 = .ok (.invokestatic 54, 3) := by decide +kernel
theorem dX0_put_173 : decode cX0_put 173 = .ok (.istore 15, 2) := by decide +kernel
theorem dX0_put_175 : decode cX0_put 175 = .ok (.iload 6, 2) := by decide +kernel
theorem dX0_put_177 : decode cX0_put 177 = .ok (.iload 14, 2) := by decide +kernel
theorem dX0_put_179 : decode cX0_put 179 = .ok (.ishr, 1) := by decide +kernel
theorem dX0_put_180 : decode cX0_put 180 = .ok (.iconst 1, 1) := by decide +kernel
theorem dX0_put_181 : decode cX0_put 181 = .ok (.iand, 1) := by decide +kernel
theorem dX0_put_182 : decode cX0_put 182 = .ok (.iconst 1, 1) := by decide +kernel
theorem dX0_put_183 : decode cX0_put 183 = .ok (.if_icmp .ne 7, 3) := by decide +kernel
theorem dX0_put_186 : decode cX0_put 186 = .ok (.iconst 1, 1) := by decide +kernel
theorem dX0_put_187 : decode cX0_put 187 = .ok (.goto 4, 3) := by decide +kernel
theorem dX0_put_190 : decode cX0_put 190 = .ok (.iconst 0, 1) := by decide +kernel
theorem dX0_put_191 : decode cX0_put 191 = .ok (.istore 16, 2) := by decide +kernel
theorem dX0_put_193 : decode cX0_put 193 = .ok (.iload 16, 2) := by decide +kernel
theorem dX0_put_195 : decode cX0_put 195 = .ok (.ifCond .eq 12, 3) := by decide +kernel
theorem dX0_put_198 : decode cX0_put 198 = .ok (.sipush 255, 3) := by decide +kernel
theorem dX0_put_201 : decode cX0_put 201 = .ok (.iload 15, 2) := by decide +kernel
theorem dX0_put_203 : decode cX0_put 203 = .ok (.imul, 1) := by decide +kernel
theorem dX0_put_204 : decode cX0_put 204 = .ok (.goto 27, 3) := by decide +kernel
theorem dX0_put_207 : decode cX0_put 207 = .ok (.sipush 255, 3) := by decide +kernel
theorem dX0_put_210 : decode cX0_put 210 = .ok (.iload 9, 2) := by decide +kernel
theorem dX0_put_212 : decode cX0_put 212 = .ok (.isub, 1) := by decide +kernel
theorem dX0_put_213 : decode cX0_put 213 = .ok (.iload_n 2, 1) := by decide +kernel
theorem dX0_put_214 : decode cX0_put 214 = .ok (.iload 14, 2) := by decide +kernel
theorem dX0_put_216 : decode cX0_put 216 = .ok (.invokestatic 54, 3) := by decide +kernel
theorem dX0_put_219 : decode cX0_put 219 = .ok (.imul, 1) := by decide +kernel
theorem dX0_put_220 : decode cX0_put 220 = .ok (.iload 9, 2) := by decide +kernel
theorem dX0_put_222 : decode cX0_put 222 = .ok (.iload 12, 2) := by decide +kernel
theorem dX0_put_224 : decode cX0_put 224 = .ok (.iload 14, 2) := by decide +kernel
theorem dX0_put_226 : decode cX0_put 226 = .ok (.invokestatic 54, 3) := by decide +kernel
theorem dX0_put_229 : decode cX0_put 229 = .ok (.imul, 1) := by decide +kernel
theorem dX0_put_230 : decode cX0_put 230 = .ok (.iadd, 1) := by decide +kernel
theorem dX0_put_231 : decode cX0_put 231 = .ok (.istore 17, 2) := by decide +kernel
theorem dX0_put_233 : decode cX0_put 233 = .ok (.sipush 255, 3) := by decide +kernel
theorem dX0_put_236 : decode cX0_put 236 = .ok (.iload_n 3, 1) := by decide +kernel
theorem dX0_put_237 : decode cX0_put 237 = .ok (.isub, 1) := by decide +kernel
theorem dX0_put_238 : decode cX0_put 238 = .ok (.iload 7, 2) := by decide +kernel
theorem dX0_put_240 : decode cX0_put 240 = .ok (.imul, 1) := by decide +kernel
theorem dX0_put_241 : decode cX0_put 241 = .ok (.aload_n 0, 1) := by decide +kernel
theorem dX0_put_242 : decode cX0_put 242 = .ok (.getfield 22, 3) := by decide +kernel
theorem dX0_put_245 : decode cX0_put 245 = .ok (.iload_n 1, 1) := by decide +kernel
theorem dX0_put_246 : decode cX0_put 246 = .ok (.iaload, 1) := by decide +kernel
theorem dX0_put_247 : decode cX0_put 247 = .ok (.iload 14, 2) := by decide +kernel
theorem dX0_put_249 : decode cX0_put 249 = .ok (.invokestatic 54, 3) := by decide +kernel
theorem dX0_put_252 : decode cX0_put 252 = .ok (.imul, 1) := by decide +kernel
theorem dX0_put_253 : decode cX0_put 253 = .ok (.iload_n 3, 1) := by decide +kernel
theorem dX0_put_254 : decode cX0_put 254 = .ok (.iload 4, 2) := by decide +kernel
theorem dX0_put_256 : decode cX0_put 256 = .ok (.isub, 1) := by decide +kernel
theorem dX0_put_257 : decode cX0_put 257 = .ok (.iload 9, 2) := by decide +kernel
theorem dX0_put_259 : decode cX0_put 259 = .ok (.imul, 1) := by decide +kernel
theorem dX0_put_260 : decode cX0_put 260 = .ok (.iload 15, 2) := by decide +kernel
theorem dX0_put_262 : decode cX0_put 262 = .ok (.imul, 1) := by decide +kernel
theorem dX0_put_263 : decode cX0_put 263 = .ok (.iadd, 1) := by decide +kernel
theorem dX0_put_264 : decode cX0_put 264 = .ok (.iload 4, 2) := by decide +kernel
theorem dX0_put_266 : decode cX0_put 266 = .ok (.iload 17, 2) := by decide +kernel
theorem dX0_put_268 : decode cX0_put 268 = .ok (.imul, 1) := by decide +kernel
theorem dX0_put_269 : decode cX0_put 269 = .ok (.iadd, 1) := by decide +kernel
theorem dX0_put_270 : decode cX0_put 270 = .ok (.istore 18, 2) := by decide +kernel
theorem dX0_put_272 : decode cX0_put 272 = .ok (.iload 13, 2) := by decide +kernel
theorem dX0_put_274 : decode cX0_put 274 = .ok (.iload 18, 2) := by decide +kernel
theorem dX0_put_276 : decode cX0_put 276 = .ok (.sipush 255, 3) := by decide +kernel
theorem dX0_put_279 : decode cX0_put 279 = .ok (.iload 11, 2) := by decide +kernel
theorem dX0_put_281 : decode cX0_put 281 = .ok (.imul, 1) := by decide +kernel
theorem dX0_put_282 : decode cX0_put 282 = .ok (.invokestatic 57, 3) := by decide +kernel
theorem dX0_put_285 : decode cX0_put 285 = .ok (.bipush 8, 2) := by decide +kernel
theorem dX0_put_287 : decode cX0_put 287 = .ok (.iload 14, 2) := by decide +kernel
theorem dX0_put_289 : decode cX0_put 289 = .ok (.imul, 1) := by decide +kernel
theorem dX0_put_290 : decode cX0_put 290 = .ok (.ishl, 1) := by decide +kernel
theorem dX0_put_291 : decode cX0_put 291 = .ok (.ior, 1) := by decide +kernel
theorem dX0_put_292 : decode cX0_put 292 = .ok (.istore 13, 2) := by decide +kernel
theorem dX0_put_294 : decode cX0_put 294 = .ok (.iinc 14 1, 3) := by decide +kernel
theorem dX0_put_297 : decode cX0_put 297 = .ok (.goto (-137), 3) := by decide +kernel
theorem dX0_put_300 : decode cX0_put 300 = .ok (.aload_n 0, 1) := by decide +kernel
theorem dX0_put_301 : decode cX0_put 301 = .ok (.getfield 22, 3) := by decide +kernel
theorem dX0_put_304 : decode cX0_put 304 = .ok (.iload_n 1, 1) := by decide +kernel
theorem dX0_put_305 : decode cX0_put 305 = .ok (.iload 13, 2) := by decide +kernel
theorem dX0_put_307 : decode cX0_put 307 = .ok (.iastore, 1) := by decide +kernel
theorem dX0_put_308 : decode cX0_put 308 = .ok (.return_, 1) := by decide +kernel
theorem dX0_result_0 : decode cX0_result 0 = .ok (.aload_n 0, 1) := by decide +kernel
theorem dX0_result_1 : decode cX0_result 1 = .ok (.iload_n 1, 1) := by decide +kernel
theorem dX0_result_2 : decode cX0_result 2 = .ok (.iconst 0, 1) := by decide +kernel
theorem dX0_result_3 : decode cX0_result 3 = .ok (.invokevirtual 60, 3) := by decide +kernel
theorem dX0_result_6 : decode cX0_result 6 = .ok (.aload_n 0, 1) := by decide +kernel
theorem dX0_result_7 : decode cX0_result 7 = .ok (.iload_n 1, 1) := by decide +kernel
theorem dX0_result_8 : decode cX0_result 8 = .ok (.iconst 1, 1) := by decide +kernel
theorem dX0_result_9 : decode cX0_result 9 = .ok (.invokevirtual 60, 3) := by decide +kernel
theorem dX0_result_12 : decode cX0_result 12 = .ok (.aload_n 0, 1) := by decide +kernel
theorem dX0_result_13 : decode cX0_result 13 = .ok (.iload_n 1, 1) := by decide +kernel
theorem dX0_result_14 : decode cX0_result 14 = .ok (.iconst 2, 1) := by decide +kernel
theorem dX0_result_15 : decode cX0_result 15 = .ok (.invokevirtual 60, 3) := by decide +kernel
theorem dX0_result_18 : decode cX0_result 18 = .ok (.invokestatic 63, 3) := by decide +kernel
theorem dX0_result_21 : decode cX0_result 21 = .ok (.ireturn, 1) := by decide +kernel
theorem dX0_resultBand_0 : decode cX0_resultBand 0 = .ok (.aload_n 0, 1) := by decide +kernel
theorem dX0_resultBand_1 : decode cX0_resultBand 1 = .ok (.getfield 25, 3) := by decide +kernel
theorem dX0_resultBand_4 : decode cX0_resultBand 4 = .ok (.iload_n 1, 1) := by decide +kernel
theorem dX0_resultBand_5 : decode cX0_resultBand 5 = .ok (.iaload, 1) := by decide +kernel
theorem dX0_resultBand_6 : decode cX0_resultBand 6 = .ok (.istore_n 3, 1) := by decide +kernel
theorem dX0_resultBand_7 : decode cX0_resultBand 7 = .ok (.iload_n 3, 1) := by decide +kernel
theorem dX0_resultBand_8 : decode cX0_resultBand 8 = .ok (.ifCond .gt 5, 3) := by decide +kernel
theorem dX0_resultBand_11 : decode cX0_resultBand 11 = .ok (.iconst 0, 1) := by decide +kernel
theorem dX0_resultBand_12 : decode cX0_resultBand 12 = .ok (.ireturn, 1) := by decide +kernel
theorem dX0_resultBand_13 : decode cX0_resultBand 13 = .ok (.aload_n 0, 1) := by decide +kernel
theorem dX0_resultBand_14 : decode cX0_resultBand 14 = .ok (.getfield 22, 3) := by decide +kernel
theorem dX0_resultBand_17 : decode cX0_resultBand 17 = .ok (.iload_n 1, 1) := by decide +kernel
theorem dX0_resultBand_18 : decode cX0_resultBand 18 = .ok (.iaload, 1) := by decide +kernel
theorem dX0_resultBand_19 : decode cX0_resultBand 19 = .ok (.iload_n 2, 1) := by decide +kernel
theorem dX0_resultBand_20 : decode cX0_resultBand 20 = .ok (.invokestatic 54, 3) := by decide +kernel
theorem dX0_resultBand_23 : decode cX0_resultBand 23 = .ok (.istore 4, 2) := by decide +kernel
theorem dX0_resultBand_25 : decode cX0_resultBand 25 = .ok (.iload 4, 2) := by decide +kernel
theorem dX0_resultBand_27 : decode cX0_resultBand 27 = .ok (.aload_n 0, 1) := by decide +kernel
theorem dX0_resultBand_28 : decode cX0_resultBand 28 = .ok (.getfield 15, 3) := by decide +kernel
theorem dX0_resultBand_31 : decode cX0_resultBand 31 = .ok (.iload_n 1, 1) := by decide +kernel
theorem dX0_resultBand_32 : decode cX0_resultBand 32 = .ok (.iaload, 1) := by decide +kernel
theorem dX0_resultBand_33 : decode cX0_resultBand 33 = .ok (.iload_n 2, 1) := by decide +kernel
theorem dX0_resultBand_34 : decode cX0_resultBand 34 = .ok (.invokestatic 54, 3) := by decide +kernel
theorem dX0_resultBand_37 : decode cX0_resultBand 37 = .ok (.isub, 1) := by decide +kernel
theorem dX0_resultBand_38 : decode cX0_resultBand 38 = .ok (.istore 5, 2) := by decide +kernel
theorem dX0_resultBand_40 : decode cX0_resultBand 40 = .ok (.iload 4, 2) := by decide +kernel
theorem dX0_resultBand_42 : decode cX0_resultBand 42 = .ok (.iload 5, 2) := by decide +kernel
theorem dX0_resultBand_44 : decode cX0_resultBand 44 = .ok (.aload_n 0, 1) := by decide +kernel
theorem dX0_resultBand_45 : decode cX0_resultBand 45 = .ok (.getfield 19, 3) := by decide +kernel
theorem dX0_resultBand_48 : decode cX0_resultBand 48 = .ok (.iload_n 1, 1) := by decide +kernel
theorem dX0_resultBand_49 : decode cX0_resultBand 49 = .ok (.iaload, 1) := by decide +kernel
theorem dX0_resultBand_50 : decode cX0_resultBand 50 = .ok (.sipush 255, 3) := by decide +kernel
theorem dX0_resultBand_53 : decode cX0_resultBand 53 = .ok (.iload_n 3, 1) := by decide +kernel
theorem dX0_resultBand_54 : decode cX0_resultBand 54 = .ok (.isub, 1) := by decide +kernel
theorem dX0_resultBand_55 : decode cX0_resultBand 55 = .ok (.imul, 1) := by decide +kernel
theorem dX0_resultBand_56 : decode cX0_resultBand 56 = .ok (.imul, 1) := by decide +kernel
theorem dX0_resultBand_57 : decode cX0_resultBand 57 = .ok (.sipush 255, 3) := by decide +kernel
theorem dX0_resultBand_60 : decode cX0_resultBand 60 = .ok (.iload_n 3, 1) := by decide +kernel
theorem dX0_resultBand_61 : decode cX0_resultBand 61 = .ok (.imul, 1) := by decide +kernel
theorem dX0_resultBand_62 : decode cX0_resultBand 62 = .ok (.idiv, 1) := by decide +kernel
theorem dX0_resultBand_63 : decode cX0_resultBand 63 = .ok (.iadd, 1) := by decide +kernel
theorem dX0_resultBand_64 : decode cX0_resultBand 64 = .ok (.invokestatic 66, 3) := by decide +kernel
theorem dX0_resultBand_67 : decode cX0_resultBand 67 = .ok (.ireturn, 1) := by decide +kernel
theorem dX0_resultLum_0 : decode cX0_resultLum 0 = .ok (.aload_n 0, 1) := by decide +kernel
theorem dX0_resultLum_1 : decode cX0_resultLum 1 = .ok (.iload_n 1, 1) := by decide +kernel
theorem dX0_resultLum_2 : decode cX0_resultLum 2 = .ok (.invokevirtual 69, 3) := by decide +kernel
theorem dX0_resultLum_5 : decode cX0_resultLum 5 = .ok (.istore_n 2, 1) := by decide +kernel
theorem dX0_resultLum_6 : decode cX0_resultLum 6 = .ok (.aload_n 0, 1) := by decide +kernel
theorem dX0_resultLum_7 : decode cX0_resultLum 7 = .ok (.getfield 25, 3) := by decide +kernel
theorem dX0_resultLum_10 : decode cX0_resultLum 10 = .ok (.iload_n 1, 1) := by decide +kernel
theorem dX0_resultLum_11 : decode cX0_resultLum 11 = .ok (.iaload, 1) := by decide +kernel
theorem dX0_resultLum_12 : decode cX0_resultLum 12 = .ok (.istore_n 3, 1) := by decide +kernel
theorem dX0_resultLum_13 : decode cX0_resultLum 13 = .ok (.iload_n 2, 1) := by decide +kernel
theorem dX0_resultLum_14 : decode cX0_resultLum 14 = .ok (.iconst 0, 1) := by decide +kernel
theorem dX0_resultLum_15 : decode cX0_resultLum 15 = .ok (.invokestatic 54, 3) := by decide +kernel
theorem dX0_resultLum_18 : decode cX0_resultLum 18 = .ok (.iload_n 3, 1) := by decide +kernel
theorem dX0_resultLum_19 : decode cX0_resultLum 19 = .ok (.invokestatic 72, 3) := by decide +kernel
theorem dX0_resultLum_22 : decode cX0_resultLum 22 = .ok (.iload_n 2, 1) := by decide +kernel
theorem dX0_resultLum_23 : decode cX0_resultLum 23 = .ok (.iconst 1, 1) := by decide +kernel
theorem dX0_resultLum_24 : decode cX0_resultLum 24 = .ok (.invokestatic 54, 3) := by decide +kernel
theorem dX0_resultLum_27 : decode cX0_resultLum 27 = .ok (.iload_n 3, 1) := by decide +kernel
theorem dX0_resultLum_28 : decode cX0_resultLum 28 = .ok (.invokestatic 72, 3) := by decide +kernel
theorem dX0_resultLum_31 : decode cX0_resultLum 31 = .ok (.iload_n 2, 1) := by decide +kernel
theorem dX0_resultLum_32 : decode cX0_resultLum 32 = .ok (.iconst 2, 1) := by decide +kernel
theorem dX0_resultLum_33 : decode cX0_resultLum 33 = .ok (.invokestatic 54, 3) := by decide +kernel
theorem dX0_resultLum_36 : decode cX0_resultLum 36 = .ok (.iload_n 3, 1) := by decide +kernel
theorem dX0_resultLum_37 : decode cX0_resultLum 37 = .ok (.invokestatic 72, 3) := by decide +kernel
theorem dX0_resultLum_40 : decode cX0_resultLum 40 = .ok (.invokestatic 75, 3) := by decide +kernel
theorem dX0_resultLum_43 : decode cX0_resultLum 43 = .ok (.ireturn, 1) := by decide +kernel
theorem dX1_ofBytes_0 : decode cX1_ofBytes 0 = .ok (.iload_n 0, 1) := by decide +kernel
theorem dX1_ofBytes_1 : decode cX1_ofBytes 1 = .ok (.tableswitch 141 1 11 #[59, 65, 71, 77, 83, 89, 95, 101, 107, 113, 125], 59) := by decide +kernel
theorem dX1_ofBytes_60 : decode cX1_ofBytes 60 = .ok (.iload_n 1, 1) := by decide +kernel
theorem dX1_ofBytes_61 : decode cX1_ofBytes 61 = .ok (.iload_n 2, 1) := by decide +kernel
theorem dX1_ofBytes_62 : decode cX1_ofBytes 62 = .ok (.invokestatic 9, 3) := by decide +kernel
theorem dX1_ofBytes_65 : decode cX1_ofBytes 65 = .ok (.ireturn, 1) := by decide +kernel
theorem dX1_ofBytes_66 : decode cX1_ofBytes 66 = .ok (.iload_n 1, 1) := by decide +kernel
theorem dX1_ofBytes_67 : decode cX1_ofBytes 67 = .ok (.iload_n 2, 1) := by decide +kernel
theorem dX1_ofBytes_68 : decode cX1_ofBytes 68 = .ok (.invokestatic 15, 3) := by decide +kernel
theorem dX1_ofBytes_71 : decode cX1_ofBytes 71 = .ok (.ireturn, 1) := by decide +kernel
theorem dX1_ofBytes_72 : decode cX1_ofBytes 72 = .ok (.iload_n 2, 1) := by decide +kernel
theorem dX1_ofBytes_73 : decode cX1_ofBytes 73 = .ok (.iload_n 1, 1) := by decide +kernel
theorem dX1_ofBytes_74 : decode cX1_ofBytes 74 = .ok (.invokestatic 18, 3) := by decide +kernel
theorem dX1_ofBytes_77 : decode cX1_ofBytes 77 = .ok (.ireturn, 1) := by decide +kernel
theorem dX1_ofBytes_78 : decode cX1_ofBytes 78 = .ok (.iload_n 1, 1) := by decide +kernel
theorem dX1_ofBytes_79 : decode cX1_ofBytes 79 = .ok (.iload_n 2, 1) := by decide +kernel
theorem dX1_ofBytes_80 : decode cX1_ofBytes 80 = .ok (.invokestatic 23, 3) := by decide +kernel
theorem dX1_ofBytes_83 : decode cX1_ofBytes 83 = .ok (.ireturn, 1) := by decide +kernel
theorem dX1_ofBytes_84 : decode cX1_ofBytes 84 = .ok (.iload_n 1, 1) := by decide +kernel
theorem dX1_ofBytes_85 : decode cX1_ofBytes 85 = .ok (.iload_n 2, 1) := by decide +kernel
theorem dX1_ofBytes_86 : decode cX1_ofBytes 86 = .ok (.invokestatic 28, 3) := by decide +kernel
theorem dX1_ofBytes_89 : decode cX1_ofBytes 89 = .ok (.ireturn, 1) := by decide +kernel
theorem dX1_ofBytes_90 : decode cX1_ofBytes 90 = .ok (.iload_n 1, 1) := by decide +kernel
theorem dX1_ofBytes_91 : decode cX1_ofBytes 91 = .ok (.iload_n 2, 1) := by decide +kernel
theorem dX1_ofBytes_92 : decode cX1_ofBytes 92 = .ok (.invokestatic 31, 3) := by decide +kernel
theorem dX1_ofBytes_95 : decode cX1_ofBytes 95 = .ok (.ireturn, 1) := by decide +kernel
theorem dX1_ofBytes_96 : decode cX1_ofBytes 96 = .ok (.iload_n 1, 1) := by decide +kernel
theorem dX1_ofBytes_97 : decode cX1_ofBytes 97 = .ok (.iload_n 2, 1) := by decide +kernel
theorem dX1_ofBytes_98 : decode cX1_ofBytes 98 = .ok (.invokestatic 34, 3) := by decide +kernel
theorem dX1_ofBytes_101 : decode cX1_ofBytes 101 = .ok (.ireturn, 1) := by decide +kernel
theorem dX1_ofBytes_102 : decode cX1_ofBytes 102 = .ok (.iload_n 1, 1) := by decide +kernel
theorem dX1_ofBytes_103 : decode cX1_ofBytes 103 = .ok (.iload_n 2, 1) := by decide +kernel
theorem dX1_ofBytes_104 : decode cX1_ofBytes 104 = .ok (.invokestatic 18, 3) := by decide +kernel
theorem dX1_ofBytes_107 : decode cX1_ofBytes 107 = .ok (.ireturn, 1) := by decide +kernel
theorem dX1_ofBytes_108 : decode cX1_ofBytes 108 = .ok (.iload_n 1, 1) := by decide +kernel
theorem dX1_ofBytes_109 : decode cX1_ofBytes 109 = .ok (.iload_n 2, 1) := by decide +kernel
theorem dX1_ofBytes_110 : decode cX1_ofBytes 110 = .ok (.invokestatic 37, 3) := by decide +kernel
theorem dX1_ofBytes_113 : decode cX1_ofBytes 113 = .ok (.ireturn, 1) := by decide +kernel
theorem dX1_ofBytes_114 : decode cX1_ofBytes 114 = .ok (.iload_n 1, 1) := by decide +kernel
theorem dX1_ofBytes_115 : decode cX1_ofBytes 115 = .ok (.iload_n 2, 1) := by decide +kernel
theorem dX1_ofBytes_116 : decode cX1_ofBytes 116 = .ok (.invokestatic 28, 3) := by decide +kernel
theorem dX1_ofBytes_119 : decode cX1_ofBytes 119 = .ok (.iload_n 1, 1) := by decide +kernel
theorem dX1_ofBytes_120 : decode cX1_ofBytes 120 = .ok (.iload_n 2, 1) := by decide +kernel
theorem dX1_ofBytes_121 : decode cX1_ofBytes 121 = .ok (.invokestatic 23, 3) := by decide +kernel
theorem dX1_ofBytes_124 : decode cX1_ofBytes 124 = .ok (.isub, 1) := by decide +kernel
theorem dX1_ofBytes_125 : decode cX1_ofBytes 125 = .ok (.ireturn, 1) := by decide +kernel
theorem dX1_ofBytes_126 : decode cX1_ofBytes 126 = .ok (.iconst 0, 1) := by decide +kernel
theorem dX1_ofBytes_127 : decode cX1_ofBytes 127 = .ok (.iload_n 1, 1) := by decide +kernel
theorem dX1_ofBytes_128 : decode cX1_ofBytes 128 = .ok (.iload_n 2, 1) := by decide +kernel
theorem dX1_ofBytes_129 : decode cX1_ofBytes 129 = .ok (.iadd, 1) := by decide +kernel
theorem dX1_ofBytes_130 : decode cX1_ofBytes 130 = .ok (.iconst 2, 1) := by decide +kernel
theorem dX1_ofBytes_131 : decode cX1_ofBytes 131 = .ok (.iload_n 1, 1) := by decide +kernel
theorem dX1_ofBytes_132 : decode cX1_ofBytes 132 = .ok (.iload_n 2, 1) := by decide +kernel
theorem dX1_ofBytes_133 : decode cX1_ofBytes 133 = .ok (.invokestatic 9, 3) := by decide +kernel
theorem dX1_ofBytes_136 : decode cX1_ofBytes 136 = .ok (.imul, 1) := by decide +kernel
theorem dX1_ofBytes_137 : decode cX1_ofBytes 137 = .ok (.isub, 1) := by decide +kernel
theorem dX1_ofBytes_138 : decode cX1_ofBytes 138 = .ok (.invokestatic 28, 3) := by decide +kernel
theorem dX1_ofBytes_141 : decode cX1_ofBytes 141 = .ok (.ireturn, 1) := by decide +kernel
theorem dX1_ofBytes_142 : decode cX1_ofBytes 142 = .ok (.iload_n 2, 1) := by decide +kernel
theorem dX1_ofBytes_143 : decode cX1_ofBytes 143 = .ok (.ireturn, 1) := by decide +kernel
theorem dX1_ofColours_0 : decode cX1_ofColours 0 = .ok (.iload_n 0, 1) := by decide +kernel
theorem dX1_ofColours_1 : decode cX1_ofColours 1 = .ok (.tableswitch 81 12 15 #[31, 47, 63, 72], 31) := by decide +kernel
theorem dX1_ofColours_32 : decode cX1_ofColours 32 = .ok (.iload_n 2, 1) := by decide +kernel
theorem dX1_ofColours_33 : decode cX1_ofColours 33 = .ok (.iload_n 1, 1) := by decide +kernel
theorem dX1_ofColours_34 : decode cX1_ofColours 34 = .ok (.invokestatic 40, 3) := by decide +kernel
theorem dX1_ofColours_37 : decode cX1_ofColours 37 = .ok (.invokestatic 44, 3) := by decide +kernel
theorem dX1_ofColours_40 : decode cX1_ofColours 40 = .ok (.iload_n 1, 1) := by decide +kernel
theorem dX1_ofColours_41 : decode cX1_ofColours 41 = .ok (.invokestatic 47, 3) := by decide +kernel
theorem dX1_ofColours_44 : decode cX1_ofColours 44 = .ok (.invokestatic 50, 3) := by decide +kernel
theorem dX1_ofColours_47 : decode cX1_ofColours 47 = .ok (.ireturn, 1) := by decide +kernel
theorem dX1_ofColours_48 : decode cX1_ofColours 48 = .ok (.iload_n 1, 1) := by decide +kernel
theorem dX1_ofColours_49 : decode cX1_ofColours 49 = .ok (.iload_n 2, 1) := by decide +kernel
theorem dX1_ofColours_50 : decode cX1_ofColours 50 = .ok (.invokestatic 40, 3) := by decide +kernel
theorem dX1_ofColours_53 : decode cX1_ofColours 53 = .ok (.invokestatic 44, 3) := by decide +kernel
theorem dX1_ofColours_56 : decode cX1_ofColours 56 = .ok (.iload_n 1, 1) := by decide +kernel
theorem dX1_ofColours_57 : decode cX1_ofColours 57 = .ok (.invokestatic 47, 3) := by decide +kernel
theorem dX1_ofColours_60 : decode cX1_ofColours 60 = .ok (.invokestatic 50, 3) := by decide +kernel
theorem dX1_ofColours_63 : decode cX1_ofColours 63 = .ok (.ireturn, 1) := by decide +kernel
theorem dX1_ofColours_64 : decode cX1_ofColours 64 = .ok (.iload_n 2, 1) := by decide +kernel
theorem dX1_ofColours_65 : decode cX1_ofColours 65 = .ok (.iload_n 1, 1) := by decide +kernel
theorem dX1_ofColours_66 : decode cX1_ofColours 66 = .ok (.invokestatic 47, 3) := by decide +kernel
theorem dX1_ofColours_69 : decode cX1_ofColours 69 = .ok (.invokestatic 50, 3) := by decide +kernel
theorem dX1_ofColours_72 : decode cX1_ofColours 72 = .ok (.ireturn, 1) := by decide +kernel
theorem dX1_ofColours_73 : decode cX1_ofColours 73 = .ok (.iload_n 1, 1) := by decide +kernel
theorem dX1_ofColours_74 : decode cX1_ofColours 74 = .ok (.iload_n 2, 1) := by decide +kernel
theorem dX1_ofColours_75 : decode cX1_ofColours 75 = .ok (.invokestatic 47, 3) := by decide +kernel
theorem dX1_ofColours_78 : decode cX1_ofColours 78 = .ok (.invokestatic 50, 3) := by decide +kernel
theorem dX1_ofColours_81 : decode cX1_ofColours 81 = .ok (.ireturn, 1) := by decide +kernel
theorem dX1_ofColours_82 : decode cX1_ofColours 82 = .ok (.iload_n 0, 1) := by decide +kernel
theorem dX1_ofColours_83 : decode cX1_ofColours 83 = .ok (.iload_n 1, 1) := by decide +kernel
theorem dX1_ofColours_84 : decode cX1_ofColours 84 = .ok (.iconst 0, 1) := by decide +kernel
theorem dX1_ofColours_85 : decode cX1_ofColours 85 = .ok (.invokestatic 53, 3) := by decide +kernel
theorem dX1_ofColours_88 : decode cX1_ofColours 88 = .ok (.iload_n 2, 1) := by decide +kernel
theorem dX1_ofColours_89 : decode cX1_ofColours 89 = .ok (.iconst 0, 1) := by decide +kernel
theorem dX1_ofColours_90 : decode cX1_ofColours 90 = .ok (.invokestatic 53, 3) := by decide +kernel
theorem dX1_ofColours_93 : decode cX1_ofColours 93 = .ok (.invokestatic 56, 3) := by decide +kernel
theorem dX1_ofColours_96 : decode cX1_ofColours 96 = .ok (.iload_n 0, 1) := by decide +kernel
theorem dX1_ofColours_97 : decode cX1_ofColours 97 = .ok (.iload_n 1, 1) := by decide +kernel
theorem dX1_ofColours_98 : decode cX1_ofColours 98 = .ok (.iconst 1, 1) := by decide +kernel
theorem dX1_ofColours_99 : decode cX1_ofColours 99 = .ok (.invokestatic 53, 3) := by decide +kernel
theorem dX1_ofColours_102 : decode cX1_ofColours 102 = .ok (.iload_n 2, 1) := by decide +kernel
theorem dX1_ofColours_103 : decode cX1_ofColours 103 = .ok (.iconst 1, 1) := by decide +kernel
theorem dX1_ofColours_104 : decode cX1_ofColours 104 = .ok (.invokestatic 53, 3) := by decide +kernel
theorem dX1_ofColours_107 : decode cX1_ofColours 107 = .ok (.invokestatic 56, 3) := by decide +kernel
theorem dX1_ofColours_110 : decode cX1_ofColours 110 = .ok (.iload_n 0, 1) := by decide +kernel
theorem dX1_ofColours_111 : decode cX1_ofColours 111 = .ok (.iload_n 1, 1) := by decide +kernel
theorem dX1_ofColours_112 : decode cX1_ofColours 112 = .ok (.iconst 2, 1) := by decide +kernel
theorem dX1_ofColours_113 : decode cX1_ofColours 113 = .ok (.invokestatic 53, 3) := by decide +kernel
theorem dX1_ofColours_116 : decode cX1_ofColours 116 = .ok (.iload_n 2, 1) := by decide +kernel
theorem dX1_ofColours_117 : decode cX1_ofColours 117 = .ok (.iconst 2, 1) := by decide +kernel
theorem dX1_ofColours_118 : decode cX1_ofColours 118 = .ok (.invokestatic 53, 3) := by decide +kernel
theorem dX1_ofColours_121 : decode cX1_ofColours 121 = .ok (.invokestatic 56, 3) := by decide +kernel
theorem dX1_ofColours_124 : decode cX1_ofColours 124 = .ok (.invokestatic 60, 3) := by decide +kernel
theorem dX1_ofColours_127 : decode cX1_ofColours 127 = .ok (.ireturn, 1) := by decide +kernel
theorem dX1_dodge_0 : decode cX1_dodge 0 = .ok (.iload_n 0, 1) := by decide +kernel
theorem dX1_dodge_1 : decode cX1_dodge 1 = .ok (.ifCond .ne 5, 3) := by decide +kernel
theorem dX1_dodge_4 : decode cX1_dodge 4 = .ok (.iconst 0, 1) := by decide +kernel
theorem dX1_dodge_5 : decode cX1_dodge 5 = .ok (.ireturn, 1) := by decide +kernel
theorem dX1_dodge_6 : decode cX1_dodge 6 = .ok (.sipush 255, 3) := by decide +kernel
theorem dX1_dodge_9 : decode cX1_dodge 9 = .ok (.iload_n 1, 1) := by decide +kernel
theorem dX1_dodge_10 : decode cX1_dodge 10 = .ok (.isub, 1) := by decide +kernel
theorem dX1_dodge_11 : decode cX1_dodge 11 = .ok (.istore_n 2, 1) := by decide +kernel
theorem dX1_dodge_12 : decode cX1_dodge 12 = .ok (.iload_n 0, 1) := by decide +kernel
theorem dX1_dodge_13 : decode cX1_dodge 13 = .ok (.iload_n 2, 1) := by decide +kernel
theorem dX1_dodge_14 : decode cX1_dodge 14 = .ok (.if_icmp .ge 7, 3) := by decide +kernel
theorem dX1_dodge_17 : decode cX1_dodge 17 = .ok (.iload_n 2, 1) := by decide +kernel
theorem dX1_dodge_18 : decode cX1_dodge 18 = .ok (.ifCond .gt 7, 3) := by decide +kernel
theorem dX1_dodge_21 : decode cX1_dodge 21 = .ok (.sipush 255, 3) := by decide +kernel
theorem dX1_dodge_24 : decode cX1_dodge 24 = .ok (.ireturn, 1) := by decide +kernel
theorem dX1_dodge_25 : decode cX1_dodge 25 = .ok (.sipush 255, 3) := by decide +kernel
theorem dX1_dodge_28 : decode cX1_dodge 28 = .ok (.iload_n 0, 1) := by decide +kernel
theorem dX1_dodge_29 : decode cX1_dodge 29 = .ok (.imul, 1) := by decide +kernel
theorem dX1_dodge_30 : decode cX1_dodge 30 = .ok (.iload_n 2, 1) := by decide +kernel
theorem dX1_dodge_31 : decode cX1_dodge 31 = .ok (.iconst 2, 1) := by decide +kernel
theorem dX1_dodge_32 : decode cX1_dodge 32 = .ok (.idiv, 1) := by decide +kernel
theorem dX1_dodge_33 : decode cX1_dodge 33 = .ok (.iadd, 1) := by decide +kernel
theorem dX1_dodge_34 : decode cX1_dodge 34 = .ok (.iload_n 2, 1) := by decide +kernel
theorem dX1_dodge_35 : decode cX1_dodge 35 = .ok (.idiv, 1) := by decide +kernel
theorem dX1_dodge_36 : decode cX1_dodge 36 = .ok (.ireturn, 1) := by decide +kernel
theorem dX1_burn_0 : decode cX1_burn 0 = .ok (.iload_n 0, 1) := by decide +kernel
theorem dX1_burn_1 : decode cX1_burn 1 = .ok (.sipush 255, 3) := by decide +kernel
theorem dX1_burn_4 : decode cX1_burn 4 = .ok (.if_icmp .ne 7, 3) := by decide +kernel
theorem dX1_burn_7 : decode cX1_burn 7 = .ok (.sipush 255, 3) := by decide +kernel
theorem dX1_burn_10 : decode cX1_burn 10 = .ok (.ireturn, 1) := by decide +kernel
theorem dX1_burn_11 : decode cX1_burn 11 = .ok (.iload_n 0, 1) := by decide +kernel
theorem dX1_burn_12 : decode cX1_burn 12 = .ok (.iload_n 1, 1) := by decide +kernel
theorem dX1_burn_13 : decode cX1_burn 13 = .ok (.iadd, 1) := by decide +kernel
theorem dX1_burn_14 : decode cX1_burn 14 = .ok (.sipush 255, 3) := by decide +kernel
theorem dX1_burn_17 : decode cX1_burn 17 = .ok (.if_icmp .le 7, 3) := by decide +kernel
theorem dX1_burn_20 : decode cX1_burn 20 = .ok (.iload_n 1, 1) := by decide +kernel
theorem dX1_burn_21 : decode cX1_burn 21 = .ok (.ifCond .gt 5, 3) := by decide +kernel
theorem dX1_burn_24 : decode cX1_burn 24 = .ok (.iconst 0, 1) := by decide +kernel
theorem dX1_burn_25 : decode cX1_burn 25 = .ok (.ireturn, 1) := by decide +kernel
theorem dX1_burn_26 : decode cX1_burn 26 = .ok (.sipush 255, 3) := by decide +kernel
theorem dX1_burn_29 : decode cX1_burn 29 = .ok (.sipush 255, 3) := by decide +kernel
theorem dX1_burn_32 : decode cX1_burn 32 = .ok (.sipush 255, 3) := by decide +kernel
theorem dX1_burn_35 : decode cX1_burn 35 = .ok (.iload_n 0, 1) := by decide +kernel
theorem dX1_burn_36 : decode cX1_burn 36 = .ok (.isub, 1) := by decide +kernel
theorem dX1_burn_37 : decode cX1_burn 37 = .ok (.imul, 1) := by decide +kernel
theorem dX1_burn_38 : decode cX1_burn 38 = .ok (.iload_n 1, 1) := by decide +kernel
theorem dX1_burn_39 : decode cX1_burn 39 = .ok (.iconst 2, 1) := by decide +kernel
theorem dX1_burn_40 : decode cX1_burn 40 = .ok (.idiv, 1) := by decide +kernel
theorem dX1_burn_41 : decode cX1_burn 41 = .ok (.iadd, 1) := by decide +kernel
theorem dX1_burn_42 : decode cX1_burn 42 = .ok (.iload_n 1, 1) := by decide +kernel
theorem dX1_burn_43 : decode cX1_burn 43 = .ok (.idiv, 1) := by decide +kernel
theorem dX1_burn_44 : decode cX1_burn 44 = .ok (.isub, 1) := by decide +kernel
theorem dX1_burn_45 : decode cX1_burn 45 = .ok (.ireturn, 1) := by decide +kernel
theorem dX1_hardLight_0 : decode cX1_hardLight 0 = .ok (.iload_n 1, 1) := by decide +kernel
theorem dX1_hardLight_1 : decode cX1_hardLight 1 = .ok (.bipush 127, 2) := by decide +kernel
theorem dX1_hardLight_3 : decode cX1_hardLight 3 = .ok (.if_icmp .gt 13, 3) := by decide +kernel
theorem dX1_hardLight_6 : decode cX1_hardLight 6 = .ok (.iload_n 0, 1) := by decide +kernel
theorem dX1_hardLight_7 : decode cX1_hardLight 7 = .ok (.iconst 2, 1) := by decide +kernel
theorem dX1_hardLight_8 : decode cX1_hardLight 8 = .ok (.iload_n 1, 1) := by decide +kernel
theorem dX1_hardLight_9 : decode cX1_hardLight 9 = .ok (.imul, 1) := by decide +kernel
theorem dX1_hardLight_10 : decode cX1_hardLight 10 = .ok (.invokestatic 9, 3) := by decide +kernel
theorem dX1_hardLight_13 : decode cX1_hardLight 13 = .ok (.goto 14, 3) := by decide +kernel
theorem dX1_hardLight_16 : decode cX1_hardLight 16 = .ok (.iload_n 0, 1) := by decide +kernel
theorem dX1_hardLight_17 : decode cX1_hardLight 17 = .ok (.iconst 2, 1) := by decide +kernel
theorem dX1_hardLight_18 : decode cX1_hardLight 18 = .ok (.iload_n 1, 1) := by decide +kernel
theorem dX1_hardLight_19 : decode cX1_hardLight 19 = .ok (.imul, 1) := by decide +kernel
theorem dX1_hardLight_20 : decode cX1_hardLight 20 = .ok (.sipush 255, 3) := by decide +kernel
theorem dX1_hardLight_23 : decode cX1_hardLight 23 = .ok (.isub, 1) := by decide +kernel
theorem dX1_hardLight_24 : decode cX1_hardLight 24 = .ok (.invokestatic 15, 3) := by decide +kernel
theorem dX1_hardLight_27 : decode cX1_hardLight 27 = .ok (.ireturn, 1) := by decide +kernel
theorem dX1_softLight_0 : decode cX1_softLight 0 = .ok (.iload_n 1, 1) := by decide +kernel
theorem dX1_softLight_1 : decode cX1_softLight 1 = .ok (.bipush 127, 2) := by decide +kernel
theorem dX1_softLight_3 : decode cX1_softLight 3 = .ok (.if_icmp .gt 25, 3) := by decide +kernel
theorem dX1_softLight_6 : decode cX1_softLight 6 = .ok (.iload_n 0, 1) := by decide +kernel
theorem dX1_softLight_7 : decode cX1_softLight 7 = .ok (.sipush 255, 3) := by decide +kernel
theorem dX1_softLight_10 : decode cX1_softLight 10 = .ok (.iconst 2, 1) := by decide +kernel
theorem dX1_softLight_11 : decode cX1_softLight 11 = .ok (.iload_n 1, 1) := by decide +kernel
theorem dX1_softLight_12 : decode cX1_softLight 12 = .ok (.imul, 1) := by decide +kernel
theorem dX1_softLight_13 : decode cX1_softLight 13 = .ok (.isub, 1) := by decide +kernel
theorem dX1_softLight_14 : decode cX1_softLight 14 = .ok (.iload_n 0, 1) := by decide +kernel
theorem dX1_softLight_15 : decode cX1_softLight 15 = .ok (.sipush 255, 3) := by decide +kernel
theorem dX1_softLight_18 : decode cX1_softLight 18 = .ok (.iload_n 0, 1) := by decide +kernel
theorem dX1_softLight_19 : decode cX1_softLight 19 = .ok (.isub, 1) := by decide +kernel
theorem dX1_softLight_20 : decode cX1_softLight 20 = .ok (.invokestatic 9, 3) := by decide +kernel
theorem dX1_softLight_23 : decode cX1_softLight 23 = .ok (.invokestatic 9, 3) := by decide +kernel
theorem dX1_softLight_26 : decode cX1_softLight 26 = .ok (.isub, 1) := by decide +kernel
theorem dX1_softLight_27 : decode cX1_softLight 27 = .ok (.ireturn, 1) := by decide +kernel
theorem dX1_softLight_28 : decode cX1_softLight 28 = .ok (.iload_n 0, 1) := by decide +kernel
theorem dX1_softLight_29 : decode cX1_softLight 29 = .ok (.iconst 2, 1) := by decide +kernel
theorem dX1_softLight_30 : decode cX1_softLight 30 = .ok (.iload_n 1, 1) := by decide +kernel
theorem dX1_softLight_31 : decode cX1_softLight 31 = .ok (.imul, 1) := by decide +kernel
theorem dX1_softLight_32 : decode cX1_softLight 32 = .ok (.sipush 255, 3) := by decide +kernel
theorem dX1_softLight_35 : decode cX1_softLight 35 = .ok (.isub, 1) := by decide +kernel
theorem dX1_softLight_36 : decode cX1_softLight 36 = .ok (.sipush 255, 3) := by decide +kernel
theorem dX1_softLight_39 : decode cX1_softLight 39 = .ok (.iload_n 0, 1) := by decide +kernel
theorem dX1_softLight_40 : decode cX1_softLight 40 = .ok (.imul, 1) := by decide +kernel
theorem dX1_softLight_41 : decode cX1_softLight 41 = .ok (.invokestatic 63, 3) := by decide +kernel
theorem dX1_softLight_44 : decode cX1_softLight 44 = .ok (.iload_n 0, 1) := by decide +kernel
theorem dX1_softLight_45 : decode cX1_softLight 45 = .ok (.isub, 1) := by decide +kernel
theorem dX1_softLight_46 : decode cX1_softLight 46 = .ok (.invokestatic 9, 3) := by decide +kernel
theorem dX1_softLight_49 : decode cX1_softLight 49 = .ok (.iadd, 1) := by decide +kernel
theorem dX1_softLight_50 : decode cX1_softLight 50 = .ok (.ireturn, 1) := by decide +kernel
theorem dX1_rootOf_0 : decode cX1_rootOf 0 = .ok (.iconst 0, 1) := by decide +kernel
theorem dX1_rootOf_1 : decode cX1_rootOf 1 = .ok (.istore_n 1, 1) := by decide +kernel
theorem dX1_rootOf_2 : decode cX1_rootOf 2 = .ok (.sipush 128, 3) := by decide +kernel
theorem dX1_rootOf_5 : decode cX1_rootOf 5 = .ok (.istore_n 2, 1) := by decide +kernel
theorem dX1_rootOf_6 : decode cX1_rootOf 6 = .ok (.iload_n 2, 1) := by decide +kernel
theorem dX1_rootOf_7 : decode cX1_rootOf 7 = .ok (.ifCond .le 23, 3) := by decide +kernel
theorem dX1_rootOf_10 : decode cX1_rootOf 10 = .ok (.iload_n 1, 1) := by decide +kernel
theorem dX1_rootOf_11 : decode cX1_rootOf 11 = .ok (.iload_n 2, 1) := by decide +kernel
theorem dX1_rootOf_12 : decode cX1_rootOf 12 = .ok (.iadd, 1) := by decide +kernel
theorem dX1_rootOf_13 : decode cX1_rootOf 13 = .ok (.istore_n 3, 1) := by decide +kernel
theorem dX1_rootOf_14 : decode cX1_rootOf 14 = .ok (.iload_n 3, 1) := by decide +kernel
theorem dX1_rootOf_15 : decode cX1_rootOf 15 = .ok (.iload_n 3, 1) := by decide +kernel
theorem dX1_rootOf_16 : decode cX1_rootOf 16 = .ok (.imul, 1) := by decide +kernel
theorem dX1_rootOf_17 : decode cX1_rootOf 17 = .ok (.iload_n 0, 1) := by decide +kernel
theorem dX1_rootOf_18 : decode cX1_rootOf 18 = .ok (.if_icmp .gt 5, 3) := by decide +kernel
theorem dX1_rootOf_21 : decode cX1_rootOf 21 = .ok (.iload_n 3, 1) := by decide +kernel
theorem dX1_rootOf_22 : decode cX1_rootOf 22 = .ok (.istore_n 1, 1) := by decide +kernel
theorem dX1_rootOf_23 : decode cX1_rootOf 23 = .ok (.iload_n 2, 1) := by decide +kernel
theorem dX1_rootOf_24 : decode cX1_rootOf 24 = .ok (.iconst 1, 1) := by decide +kernel
theorem dX1_rootOf_25 : decode cX1_rootOf 25 = .ok (.ishr, 1) := by decide +kernel
theorem dX1_rootOf_26 : decode cX1_rootOf 26 = .ok (.istore_n 2, 1) := by decide +kernel
theorem dX1_rootOf_27 : decode cX1_rootOf 27 = .ok (.goto (-21), 3) := by decide +kernel
theorem dX1_rootOf_30 : decode cX1_rootOf 30 = .ok (.iload_n 1, 1) := by decide +kernel
theorem dX1_rootOf_31 : decode cX1_rootOf 31 = .ok (.ireturn, 1) := by decide +kernel
theorem dX1_lumOf_0 : decode cX1_lumOf 0 = .ok (.iload_n 0, 1) := by decide +kernel
theorem dX1_lumOf_1 : decode cX1_lumOf 1 = .ok (.iconst 0, 1) := by decide +kernel
theorem dX1_lumOf_2 : decode cX1_lumOf 2 = .ok (.invokestatic 53, 3) := by decide +kernel
theorem dX1_lumOf_5 : decode cX1_lumOf 5 = .ok (.iload_n 0, 1) := by decide +kernel
theorem dX1_lumOf_6 : decode cX1_lumOf 6 = .ok (.iconst 1, 1) := by decide +kernel
theorem dX1_lumOf_7 : decode cX1_lumOf 7 = .ok (.invokestatic 53, 3) := by decide +kernel
theorem dX1_lumOf_10 : decode cX1_lumOf 10 = .ok (.iload_n 0, 1) := by decide +kernel
theorem dX1_lumOf_11 : decode cX1_lumOf 11 = .ok (.iconst 2, 1) := by decide +kernel
theorem dX1_lumOf_12 : decode cX1_lumOf 12 = .ok (.invokestatic 53, 3) := by decide +kernel
theorem dX1_lumOf_15 : decode cX1_lumOf 15 = .ok (.invokestatic 66, 3) := by decide +kernel
theorem dX1_lumOf_18 : decode cX1_lumOf 18 = .ok (.ireturn, 1) := by decide +kernel
theorem dX1_leastOf_0 : decode cX1_leastOf 0 = .ok (.iload_n 0, 1) := by decide +kernel
theorem dX1_leastOf_1 : decode cX1_leastOf 1 = .ok (.iload_n 1, 1) := by decide +kernel
theorem dX1_leastOf_2 : decode cX1_leastOf 2 = .ok (.iload_n 2, 1) := by decide +kernel
theorem dX1_leastOf_3 : decode cX1_leastOf 3 = .ok (.invokestatic 23, 3) := by decide +kernel
theorem dX1_leastOf_6 : decode cX1_leastOf 6 = .ok (.invokestatic 23, 3) := by decide +kernel
theorem dX1_leastOf_9 : decode cX1_leastOf 9 = .ok (.ireturn, 1) := by decide +kernel
theorem dX1_mostOf_0 : decode cX1_mostOf 0 = .ok (.iload_n 0, 1) := by decide +kernel
theorem dX1_mostOf_1 : decode cX1_mostOf 1 = .ok (.iload_n 1, 1) := by decide +kernel
theorem dX1_mostOf_2 : decode cX1_mostOf 2 = .ok (.iload_n 2, 1) := by decide +kernel
theorem dX1_mostOf_3 : decode cX1_mostOf 3 = .ok (.invokestatic 28, 3) := by decide +kernel
theorem dX1_mostOf_6 : decode cX1_mostOf 6 = .ok (.invokestatic 28, 3) := by decide +kernel
theorem dX1_mostOf_9 : decode cX1_mostOf 9 = .ok (.ireturn, 1) := by decide +kernel
theorem dX1_satOf_0 : decode cX1_satOf 0 = .ok (.iload_n 0, 1) := by decide +kernel
theorem dX1_satOf_1 : decode cX1_satOf 1 = .ok (.iconst 0, 1) := by decide +kernel
theorem dX1_satOf_2 : decode cX1_satOf 2 = .ok (.invokestatic 53, 3) := by decide +kernel
theorem dX1_satOf_5 : decode cX1_satOf 5 = .ok (.istore_n 1, 1) := by decide +kernel
theorem dX1_satOf_6 : decode cX1_satOf 6 = .ok (.iload_n 0, 1) := by decide +kernel
theorem dX1_satOf_7 : decode cX1_satOf 7 = .ok (.iconst 1, 1) := by decide +kernel
theorem dX1_satOf_8 : decode cX1_satOf 8 = .ok (.invokestatic 53, 3) := by decide +kernel
theorem dX1_satOf_11 : decode cX1_satOf 11 = .ok (.istore_n 2, 1) := by decide +kernel
theorem dX1_satOf_12 : decode cX1_satOf 12 = .ok (.iload_n 0, 1) := by decide +kernel
theorem dX1_satOf_13 : decode cX1_satOf 13 = .ok (.iconst 2, 1) := by decide +kernel
theorem dX1_satOf_14 : decode cX1_satOf 14 = .ok (.invokestatic 53, 3) := by decide +kernel
theorem dX1_satOf_17 : decode cX1_satOf 17 = .ok (.istore_n 3, 1) := by decide +kernel
theorem dX1_satOf_18 : decode cX1_satOf 18 = .ok (.iload_n 1, 1) := by decide +kernel
theorem dX1_satOf_19 : decode cX1_satOf 19 = .ok (.iload_n 2, 1) := by decide +kernel
theorem dX1_satOf_20 : decode cX1_satOf 20 = .ok (.iload_n 3, 1) := by decide +kernel
theorem dX1_satOf_21 : decode cX1_satOf 21 = .ok (.invokestatic 69, 3) := by decide +kernel
theorem dX1_satOf_24 : decode cX1_satOf 24 = .ok (.iload_n 1, 1) := by decide +kernel
theorem dX1_satOf_25 : decode cX1_satOf 25 = .ok (.iload_n 2, 1) := by decide +kernel
theorem dX1_satOf_26 : decode cX1_satOf 26 = .ok (.iload_n 3, 1) := by decide +kernel
theorem dX1_satOf_27 : decode cX1_satOf 27 = .ok (.invokestatic 72, 3) := by decide +kernel
theorem dX1_satOf_30 : decode cX1_satOf 30 = .ok (.isub, 1) := by decide +kernel
theorem dX1_satOf_31 : decode cX1_satOf 31 = .ok (.ireturn, 1) := by decide +kernel
theorem dX1_withSat_0 : decode cX1_withSat 0 = .ok (.iload_n 0, 1) := by decide +kernel
theorem dX1_withSat_1 : decode cX1_withSat 1 = .ok (.invokestatic 40, 3) := by decide +kernel
theorem dX1_withSat_4 : decode cX1_withSat 4 = .ok (.istore_n 2, 1) := by decide +kernel
theorem dX1_withSat_5 : decode cX1_withSat 5 = .ok (.iload_n 2, 1) := by decide +kernel
theorem dX1_withSat_6 : decode cX1_withSat 6 = .ok (.ifCond .gt 5, 3) := by decide +kernel
theorem dX1_withSat_9 : decode cX1_withSat 9 = .ok (.iconst 0, 1) := by decide +kernel
theorem dX1_withSat_10 : decode cX1_withSat 10 = .ok (.ireturn, 1) := by decide +kernel
theorem dX1_withSat_11 : decode cX1_withSat 11 = .ok (.iload_n 0, 1) := by decide +kernel
theorem dX1_withSat_12 : decode cX1_withSat 12 = .ok (.iconst 0, 1) := by decide +kernel
theorem dX1_withSat_13 : decode cX1_withSat 13 = .ok (.invokestatic 53, 3) := by decide +kernel
theorem dX1_withSat_16 : decode cX1_withSat 16 = .ok (.istore_n 3, 1) := by decide +kernel
theorem dX1_withSat_17 : decode cX1_withSat 17 = .ok (.iload_n 0, 1) := by decide +kernel
theorem dX1_withSat_18 : decode cX1_withSat 18 = .ok (.iconst 1, 1) := by decide +kernel
theorem dX1_withSat_19 : decode cX1_withSat 19 = .ok (.invokestatic 53, 3) := by decide +kernel
theorem dX1_withSat_22 : decode cX1_withSat 22 = .ok (.istore 4, 2) := by decide +kernel
theorem dX1_withSat_24 : decode cX1_withSat 24 = .ok (.iload_n 0, 1) := by decide +kernel
theorem dX1_withSat_25 : decode cX1_withSat 25 = .ok (.iconst 2, 1) := by decide +kernel
theorem dX1_withSat_26 : decode cX1_withSat 26 = .ok (.invokestatic 53, 3) := by decide +kernel
theorem dX1_withSat_29 : decode cX1_withSat 29 = .ok (.istore 5, 2) := by decide +kernel
theorem dX1_withSat_31 : decode cX1_withSat 31 = .ok (.iload_n 3, 1) := by decide +kernel
theorem dX1_withSat_32 : decode cX1_withSat 32 = .ok (.iload 4, 2) := by decide +kernel
theorem dX1_withSat_34 : decode cX1_withSat 34 = .ok (.iload 5, 2) := by decide +kernel
theorem dX1_withSat_36 : decode cX1_withSat 36 = .ok (.invokestatic 72, 3) := by decide +kernel
theorem dX1_withSat_39 : decode cX1_withSat 39 = .ok (.istore 6, 2) := by decide +kernel
theorem dX1_withSat_41 : decode cX1_withSat 41 = .ok (.iload_n 3, 1) := by decide +kernel
theorem dX1_withSat_42 : decode cX1_withSat 42 = .ok (.iload 6, 2) := by decide +kernel
theorem dX1_withSat_44 : decode cX1_withSat 44 = .ok (.isub, 1) := by decide +kernel
theorem dX1_withSat_45 : decode cX1_withSat 45 = .ok (.iload_n 1, 1) := by decide +kernel
theorem dX1_withSat_46 : decode cX1_withSat 46 = .ok (.imul, 1) := by decide +kernel
theorem dX1_withSat_47 : decode cX1_withSat 47 = .ok (.iload_n 2, 1) := by decide +kernel
theorem dX1_withSat_48 : decode cX1_withSat 48 = .ok (.idiv, 1) := by decide +kernel
theorem dX1_withSat_49 : decode cX1_withSat 49 = .ok (.iload 4, 2) := by decide +kernel
theorem dX1_withSat_51 : decode cX1_withSat 51 = .ok (.iload 6, 2) := by decide +kernel
theorem dX1_withSat_53 : decode cX1_withSat 53 = .ok (.isub, 1) := by decide +kernel
theorem dX1_withSat_54 : decode cX1_withSat 54 = .ok (.iload_n 1, 1) := by decide +kernel
theorem dX1_withSat_55 : decode cX1_withSat 55 = .ok (.imul, 1) := by decide +kernel
theorem dX1_withSat_56 : decode cX1_withSat 56 = .ok (.iload_n 2, 1) := by decide +kernel
theorem dX1_withSat_57 : decode cX1_withSat 57 = .ok (.idiv, 1) := by decide +kernel
theorem dX1_withSat_58 : decode cX1_withSat 58 = .ok (.iload 5, 2) := by decide +kernel
theorem dX1_withSat_60 : decode cX1_withSat 60 = .ok (.iload 6, 2) := by decide +kernel
theorem dX1_withSat_62 : decode cX1_withSat 62 = .ok (.isub, 1) := by decide +kernel
theorem dX1_withSat_63 : decode cX1_withSat 63 = .ok (.iload_n 1, 1) := by decide +kernel
theorem dX1_withSat_64 : decode cX1_withSat 64 = .ok (.imul, 1) := by decide +kernel
theorem dX1_withSat_65 : decode cX1_withSat 65 = .ok (.iload_n 2, 1) := by decide +kernel
theorem dX1_withSat_66 : decode cX1_withSat 66 = .ok (.idiv, 1) := by decide +kernel
theorem dX1_withSat_67 : decode cX1_withSat 67 = .ok (.invokestatic 60, 3) := by decide +kernel
theorem dX1_withSat_70 : decode cX1_withSat 70 = .ok (.ireturn, 1) := by decide +kernel
theorem dX1_withLum_0 : decode cX1_withLum 0 = .ok (.iload_n 1, 1) := by decide +kernel
theorem dX1_withLum_1 : decode cX1_withLum 1 = .ok (.iload_n 0, 1) := by decide +kernel
theorem dX1_withLum_2 : decode cX1_withLum 2 = .ok (.invokestatic 47, 3) := by decide +kernel
theorem dX1_withLum_5 : decode cX1_withLum 5 = .ok (.isub, 1) := by decide +kernel
theorem dX1_withLum_6 : decode cX1_withLum 6 = .ok (.istore_n 2, 1) := by decide +kernel
theorem dX1_withLum_7 : decode cX1_withLum 7 = .ok (.iload_n 0, 1) := by decide +kernel
theorem dX1_withLum_8 : decode cX1_withLum 8 = .ok (.iconst 0, 1) := by decide +kernel
theorem dX1_withLum_9 : decode cX1_withLum 9 = .ok (.invokestatic 53, 3) := by decide +kernel
theorem dX1_withLum_12 : decode cX1_withLum 12 = .ok (.iload_n 2, 1) := by decide +kernel
theorem dX1_withLum_13 : decode cX1_withLum 13 = .ok (.iadd, 1) := by decide +kernel
theorem dX1_withLum_14 : decode cX1_withLum 14 = .ok (.istore_n 3, 1) := by decide +kernel
theorem dX1_withLum_15 : decode cX1_withLum 15 = .ok (.iload_n 0, 1) := by decide +kernel
theorem dX1_withLum_16 : decode cX1_withLum 16 = .ok (.iconst 1, 1) := by decide +kernel
theorem dX1_withLum_17 : decode cX1_withLum 17 = .ok (.invokestatic 53, 3) := by decide +kernel
theorem dX1_withLum_20 : decode cX1_withLum 20 = .ok (.iload_n 2, 1) := by decide +kernel
theorem dX1_withLum_21 : decode cX1_withLum 21 = .ok (.iadd, 1) := by decide +kernel
theorem dX1_withLum_22 : decode cX1_withLum 22 = .ok (.istore 4, 2) := by decide +kernel
theorem dX1_withLum_24 : decode cX1_withLum 24 = .ok (.iload_n 0, 1) := by decide +kernel
theorem dX1_withLum_25 : decode cX1_withLum 25 = .ok (.iconst 2, 1) := by decide +kernel
theorem dX1_withLum_26 : decode cX1_withLum 26 = .ok (.invokestatic 53, 3) := by decide +kernel
theorem dX1_withLum_29 : decode cX1_withLum 29 = .ok (.iload_n 2, 1) := by decide +kernel
theorem dX1_withLum_30 : decode cX1_withLum 30 = .ok (.iadd, 1) := by decide +kernel
theorem dX1_withLum_31 : decode cX1_withLum 31 = .ok (.istore 5, 2) := by decide +kernel
theorem dX1_withLum_33 : decode cX1_withLum 33 = .ok (.iload_n 3, 1) := by decide +kernel
theorem dX1_withLum_34 : decode cX1_withLum 34 = .ok (.iload 4, 2) := by decide +kernel
theorem dX1_withLum_36 : decode cX1_withLum 36 = .ok (.iload 5, 2) := by decide +kernel
theorem dX1_withLum_38 : decode cX1_withLum 38 = .ok (.invokestatic 66, 3) := by decide +kernel
theorem dX1_withLum_41 : decode cX1_withLum 41 = .ok (.istore 6, 2) := by decide +kernel
theorem dX1_withLum_43 : decode cX1_withLum 43 = .ok (.iload_n 3, 1) := by decide +kernel
theorem dX1_withLum_44 : decode cX1_withLum 44 = .ok (.iload 4, 2) := by decide +kernel
theorem dX1_withLum_46 : decode cX1_withLum 46 = .ok (.iload 5, 2) := by decide +kernel
theorem dX1_withLum_48 : decode cX1_withLum 48 = .ok (.invokestatic 72, 3) := by decide +kernel
theorem dX1_withLum_51 : decode cX1_withLum 51 = .ok (.istore 7, 2) := by decide +kernel
theorem dX1_withLum_53 : decode cX1_withLum 53 = .ok (.iload_n 3, 1) := by decide +kernel
theorem dX1_withLum_54 : decode cX1_withLum 54 = .ok (.iload 4, 2) := by decide +kernel
theorem dX1_withLum_56 : decode cX1_withLum 56 = .ok (.iload 5, 2) := by decide +kernel
theorem dX1_withLum_58 : decode cX1_withLum 58 = .ok (.invokestatic 69, 3) := by decide +kernel
theorem dX1_withLum_61 : decode cX1_withLum 61 = .ok (.istore 8, 2) := by decide +kernel
theorem dX1_withLum_63 : decode cX1_withLum 63 = .ok (.iload_n 3, 1) := by decide +kernel
theorem dX1_withLum_64 : decode cX1_withLum 64 = .ok (.iload 6, 2) := by decide +kernel
theorem dX1_withLum_66 : decode cX1_withLum 66 = .ok (.iload 7, 2) := by decide +kernel
theorem dX1_withLum_68 : decode cX1_withLum 68 = .ok (.iload 8, 2) := by decide +kernel
theorem dX1_withLum_70 : decode cX1_withLum 70 = .ok (.invokestatic 75, 3) := by decide +kernel
theorem dX1_withLum_73 : decode cX1_withLum 73 = .ok (.iload 4, 2) := by decide +kernel
theorem dX1_withLum_75 : decode cX1_withLum 75 = .ok (.iload 6, 2) := by decide +kernel
theorem dX1_withLum_77 : decode cX1_withLum 77 = .ok (.iload 7, 2) := by decide +kernel
theorem dX1_withLum_79 : decode cX1_withLum 79 = .ok (.iload 8, 2) := by decide +kernel
theorem dX1_withLum_81 : decode cX1_withLum 81 = .ok (.invokestatic 75, 3) := by decide +kernel
theorem dX1_withLum_84 : decode cX1_withLum 84 = .ok (.iload 5, 2) := by decide +kernel
theorem dX1_withLum_86 : decode cX1_withLum 86 = .ok (.iload 6, 2) := by decide +kernel
theorem dX1_withLum_88 : decode cX1_withLum 88 = .ok (.iload 7, 2) := by decide +kernel
theorem dX1_withLum_90 : decode cX1_withLum 90 = .ok (.iload 8, 2) := by decide +kernel
theorem dX1_withLum_92 : decode cX1_withLum 92 = .ok (.invokestatic 75, 3) := by decide +kernel
theorem dX1_withLum_95 : decode cX1_withLum 95 = .ok (.invokestatic 60, 3) := by decide +kernel
theorem dX1_withLum_98 : decode cX1_withLum 98 = .ok (.ireturn, 1) := by decide +kernel
theorem dX1_drawnIn_0 : decode cX1_drawnIn 0 = .ok (.iload_n 0, 1) := by decide +kernel
theorem dX1_drawnIn_1 : decode cX1_drawnIn 1 = .ok (.istore 4, 2) := by decide +kernel
theorem dX1_drawnIn_3 : decode cX1_drawnIn 3 = .ok (.iload_n 2, 1) := by decide +kernel
theorem dX1_drawnIn_4 : decode cX1_drawnIn 4 = .ok (.ifCond .ge 24, 3) := by decide +kernel
theorem dX1_drawnIn_7 : decode cX1_drawnIn 7 = .ok (.iload_n 2, 1) := by decide +kernel
theorem dX1_drawnIn_8 : decode cX1_drawnIn 8 = .ok (.iload_n 1, 1) := by decide +kernel
theorem dX1_drawnIn_9 : decode cX1_drawnIn 9 = .ok (.if_icmp .ge 19, 3) := by decide +kernel
theorem dX1_drawnIn_12 : decode cX1_drawnIn 12 = .ok (.iload_n 1, 1) := by decide +kernel
theorem dX1_drawnIn_13 : decode cX1_drawnIn 13 = .ok (.iload 4, 2) := by decide +kernel
theorem dX1_drawnIn_15 : decode cX1_drawnIn 15 = .ok (.iload_n 1, 1) := by decide +kernel
theorem dX1_drawnIn_16 : decode cX1_drawnIn 16 = .ok (.isub, 1) := by decide +kernel
theorem dX1_drawnIn_17 : decode cX1_drawnIn 17 = .ok (.iload_n 1, 1) := by decide +kernel
theorem dX1_drawnIn_18 : decode cX1_drawnIn 18 = .ok (.imul, 1) := by decide +kernel
theorem dX1_drawnIn_19 : decode cX1_drawnIn 19 = .ok (.iload_n 1, 1) := by decide +kernel
theorem dX1_drawnIn_20 : decode cX1_drawnIn 20 = .ok (.iload_n 2, 1) := by decide +kernel
theorem dX1_drawnIn_21 : decode cX1_drawnIn 21 = .ok (.isub, 1) := by decide +kernel
theorem dX1_drawnIn_22 : decode cX1_drawnIn 22 = .ok (.invokestatic 79, 3) := by decide +kernel
theorem dX1_drawnIn_25 : decode cX1_drawnIn 25 = .ok (.iadd, 1) := by decide +kernel
theorem dX1_drawnIn_26 : decode cX1_drawnIn 26 = .ok (.istore 4, 2) := by decide +kernel
theorem dX1_drawnIn_28 : decode cX1_drawnIn 28 = .ok (.iload_n 3, 1) := by decide +kernel
theorem dX1_drawnIn_29 : decode cX1_drawnIn 29 = .ok (.sipush 255, 3) := by decide +kernel
theorem dX1_drawnIn_32 : decode cX1_drawnIn 32 = .ok (.if_icmp .le 28, 3) := by decide +kernel
theorem dX1_drawnIn_35 : decode cX1_drawnIn 35 = .ok (.iload_n 3, 1) := by decide +kernel
theorem dX1_drawnIn_36 : decode cX1_drawnIn 36 = .ok (.iload_n 1, 1) := by decide +kernel
theorem dX1_drawnIn_37 : decode cX1_drawnIn 37 = .ok (.if_icmp .le 23, 3) := by decide +kernel
theorem dX1_drawnIn_40 : decode cX1_drawnIn 40 = .ok (.iload_n 1, 1) := by decide +kernel
theorem dX1_drawnIn_41 : decode cX1_drawnIn 41 = .ok (.iload 4, 2) := by decide +kernel
theorem dX1_drawnIn_43 : decode cX1_drawnIn 43 = .ok (.iload_n 1, 1) := by decide +kernel
theorem dX1_drawnIn_44 : decode cX1_drawnIn 44 = .ok (.isub, 1) := by decide +kernel
theorem dX1_drawnIn_45 : decode cX1_drawnIn 45 = .ok (.sipush 255, 3) := by decide +kernel
theorem dX1_drawnIn_48 : decode cX1_drawnIn 48 = .ok (.iload_n 1, 1) := by decide +kernel
theorem dX1_drawnIn_49 : decode cX1_drawnIn 49 = .ok (.isub, 1) := by decide +kernel
theorem dX1_drawnIn_50 : decode cX1_drawnIn 50 = .ok (.imul, 1) := by decide +kernel
theorem dX1_drawnIn_51 : decode cX1_drawnIn 51 = .ok (.iload_n 3, 1) := by decide +kernel
theorem dX1_drawnIn_52 : decode cX1_drawnIn 52 = .ok (.iload_n 1, 1) := by decide +kernel
theorem dX1_drawnIn_53 : decode cX1_drawnIn 53 = .ok (.isub, 1) := by decide +kernel
theorem dX1_drawnIn_54 : decode cX1_drawnIn 54 = .ok (.invokestatic 79, 3) := by decide +kernel
theorem dX1_drawnIn_57 : decode cX1_drawnIn 57 = .ok (.iadd, 1) := by decide +kernel
theorem dX1_drawnIn_58 : decode cX1_drawnIn 58 = .ok (.istore 4, 2) := by decide +kernel
theorem dX1_drawnIn_60 : decode cX1_drawnIn 60 = .ok (.iload 4, 2) := by decide +kernel
theorem dX1_drawnIn_62 : decode cX1_drawnIn 62 = .ok (.invokestatic 82, 3) := by decide +kernel
theorem dX1_drawnIn_65 : decode cX1_drawnIn 65 = .ok (.ireturn, 1) := by decide +kernel
theorem dX2_mul_0 : decode cX2_mul 0 = .ok (.iload_n 0, 1) := by decide +kernel
theorem dX2_mul_1 : decode cX2_mul 1 = .ok (.iload_n 1, 1) := by decide +kernel
theorem dX2_mul_2 : decode cX2_mul 2 = .ok (.imul, 1) := by decide +kernel
theorem dX2_mul_3 : decode cX2_mul 3 = .ok (.bipush 127, 2) := by decide +kernel
theorem dX2_mul_5 : decode cX2_mul 5 = .ok (.iadd, 1) := by decide +kernel
theorem dX2_mul_6 : decode cX2_mul 6 = .ok (.sipush 255, 3) := by decide +kernel
theorem dX2_mul_9 : decode cX2_mul 9 = .ok (.idiv, 1) := by decide +kernel
theorem dX2_mul_10 : decode cX2_mul 10 = .ok (.ireturn, 1) := by decide +kernel
theorem dX2_union_0 : decode cX2_union 0 = .ok (.iload_n 0, 1) := by decide +kernel
theorem dX2_union_1 : decode cX2_union 1 = .ok (.iload_n 1, 1) := by decide +kernel
theorem dX2_union_2 : decode cX2_union 2 = .ok (.iadd, 1) := by decide +kernel
theorem dX2_union_3 : decode cX2_union 3 = .ok (.iload_n 0, 1) := by decide +kernel
theorem dX2_union_4 : decode cX2_union 4 = .ok (.iload_n 1, 1) := by decide +kernel
theorem dX2_union_5 : decode cX2_union 5 = .ok (.invokestatic 9, 3) := by decide +kernel
theorem dX2_union_8 : decode cX2_union 8 = .ok (.isub, 1) := by decide +kernel
theorem dX2_union_9 : decode cX2_union 9 = .ok (.ireturn, 1) := by decide +kernel
theorem dX2_within_0 : decode cX2_within 0 = .ok (.iconst 0, 1) := by decide +kernel
theorem dX2_within_1 : decode cX2_within 1 = .ok (.sipush 255, 3) := by decide +kernel
theorem dX2_within_4 : decode cX2_within 4 = .ok (.iload_n 0, 1) := by decide +kernel
theorem dX2_within_5 : decode cX2_within 5 = .ok (.invokestatic 15, 3) := by decide +kernel
theorem dX2_within_8 : decode cX2_within 8 = .ok (.invokestatic 20, 3) := by decide +kernel
theorem dX2_within_11 : decode cX2_within 11 = .ok (.ireturn, 1) := by decide +kernel
theorem dX2_nearest_0 : decode cX2_nearest 0 = .ok (.iload_n 1, 1) := by decide +kernel
theorem dX2_nearest_1 : decode cX2_nearest 1 = .ok (.ifCond .gt 5, 3) := by decide +kernel
theorem dX2_nearest_4 : decode cX2_nearest 4 = .ok (.iconst 0, 1) := by decide +kernel
theorem dX2_nearest_5 : decode cX2_nearest 5 = .ok (.ireturn, 1) := by decide +kernel
theorem dX2_nearest_6 : decode cX2_nearest 6 = .ok (.sipush 255, 3) := by decide +kernel
theorem dX2_nearest_9 : decode cX2_nearest 9 = .ok (.iload_n 0, 1) := by decide +kernel
theorem dX2_nearest_10 : decode cX2_nearest 10 = .ok (.iload_n 1, 1) := by decide +kernel
theorem dX2_nearest_11 : decode cX2_nearest 11 = .ok (.iconst 2, 1) := by decide +kernel
theorem dX2_nearest_12 : decode cX2_nearest 12 = .ok (.idiv, 1) := by decide +kernel
theorem dX2_nearest_13 : decode cX2_nearest 13 = .ok (.iadd, 1) := by decide +kernel
theorem dX2_nearest_14 : decode cX2_nearest 14 = .ok (.iload_n 1, 1) := by decide +kernel
theorem dX2_nearest_15 : decode cX2_nearest 15 = .ok (.idiv, 1) := by decide +kernel
theorem dX2_nearest_16 : decode cX2_nearest 16 = .ok (.invokestatic 15, 3) := by decide +kernel
theorem dX2_nearest_19 : decode cX2_nearest 19 = .ok (.ireturn, 1) := by decide +kernel
theorem dX2_bandOf_0 : decode cX2_bandOf 0 = .ok (.iload_n 0, 1) := by decide +kernel
theorem dX2_bandOf_1 : decode cX2_bandOf 1 = .ok (.bipush 8, 2) := by decide +kernel
theorem dX2_bandOf_3 : decode cX2_bandOf 3 = .ok (.iload_n 1, 1) := by decide +kernel
theorem dX2_bandOf_4 : decode cX2_bandOf 4 = .ok (.imul, 1) := by decide +kernel
theorem dX2_bandOf_5 : decode cX2_bandOf 5 = .ok (.ishr, 1) := by decide +kernel
theorem dX2_bandOf_6 : decode cX2_bandOf 6 = .ok (.sipush 255, 3) := by decide +kernel
theorem dX2_bandOf_9 : decode cX2_bandOf 9 = .ok (.iand, 1) := by decide +kernel
theorem dX2_bandOf_10 : decode cX2_bandOf 10 = .ok (.ireturn, 1) := by decide +kernel
theorem dX2_packed_0 : decode cX2_packed 0 = .ok (.iload_n 0, 1) := by decide +kernel
theorem dX2_packed_1 : decode cX2_packed 1 = .ok (.iload_n 1, 1) := by decide +kernel
theorem dX2_packed_2 : decode cX2_packed 2 = .ok (.bipush 8, 2) := by decide +kernel
theorem dX2_packed_4 : decode cX2_packed 4 = .ok (.ishl, 1) := by decide +kernel
theorem dX2_packed_5 : decode cX2_packed 5 = .ok (.ior, 1) := by decide +kernel
theorem dX2_packed_6 : decode cX2_packed 6 = .ok (.iload_n 2, 1) := by decide +kernel
theorem dX2_packed_7 : decode cX2_packed 7 = .ok (.bipush 16, 2) := by decide +kernel
theorem dX2_packed_9 : decode cX2_packed 9 = .ok (.ishl, 1) := by decide +kernel
theorem dX2_packed_10 : decode cX2_packed 10 = .ok (.ior, 1) := by decide +kernel
theorem dX2_packed_11 : decode cX2_packed 11 = .ok (.ireturn, 1) := by decide +kernel
theorem dX2_lum_0 : decode cX2_lum 0 = .ok (.bipush 30, 2) := by decide +kernel
theorem dX2_lum_2 : decode cX2_lum 2 = .ok (.iload_n 0, 1) := by decide +kernel
theorem dX2_lum_3 : decode cX2_lum 3 = .ok (.imul, 1) := by decide +kernel
theorem dX2_lum_4 : decode cX2_lum 4 = .ok (.bipush 59, 2) := by decide +kernel
theorem dX2_lum_6 : decode cX2_lum 6 = .ok (.iload_n 1, 1) := by decide +kernel
theorem dX2_lum_7 : decode cX2_lum 7 = .ok (.imul, 1) := by decide +kernel
theorem dX2_lum_8 : decode cX2_lum 8 = .ok (.iadd, 1) := by decide +kernel
theorem dX2_lum_9 : decode cX2_lum 9 = .ok (.bipush 11, 2) := by decide +kernel
theorem dX2_lum_11 : decode cX2_lum 11 = .ok (.iload_n 2, 1) := by decide +kernel
theorem dX2_lum_12 : decode cX2_lum 12 = .ok (.imul, 1) := by decide +kernel
theorem dX2_lum_13 : decode cX2_lum 13 = .ok (.iadd, 1) := by decide +kernel
theorem dX2_lum_14 : decode cX2_lum 14 = .ok (.bipush 100, 2) := by decide +kernel
theorem dX2_lum_16 : decode cX2_lum 16 = .ok (.invokestatic 23, 3) := by decide +kernel
theorem dX2_lum_19 : decode cX2_lum 19 = .ok (.ireturn, 1) := by decide +kernel
theorem dX3_init_0 : decode cX3_init 0 = .ok (.aload_n 0, 1) := by decide +kernel
theorem dX3_init_1 : decode cX3_init 1 = .ok (.invokespecial 1, 3) := by decide +kernel
theorem dX3_init_4 : decode cX3_init 4 = .ok (.aload_n 0, 1) := by decide +kernel
theorem dX3_init_5 : decode cX3_init 5 = .ok (.iconst 1, 1) := by decide +kernel
theorem dX3_init_6 : decode cX3_init 6 = .ok (.bipush 12, 2) := by decide +kernel
theorem dX3_init_8 : decode cX3_init 8 = .ok (.iload_n 1, 1) := by decide +kernel
theorem dX3_init_9 : decode cX3_init 9 = .ok (.invokestatic 9, 3) := by decide +kernel
theorem dX3_init_12 : decode cX3_init 12 = .ok (.invokestatic 15, 3) := by decide +kernel
theorem dX3_init_15 : decode cX3_init 15 = .ok (.putfield 18, 3) := by decide +kernel
theorem dX3_init_18 : decode cX3_init 18 = .ok (.aload_n 0, 1) := by decide +kernel
theorem dX3_init_19 : decode cX3_init 19 = .ok (.iconst 1, 1) := by decide +kernel
theorem dX3_init_20 : decode cX3_init 20 = .ok (.bipush 12, 2) := by decide +kernel
theorem dX3_init_22 : decode cX3_init 22 = .ok (.iload_n 2, 1) := by decide +kernel
theorem dX3_init_23 : decode cX3_init 23 = .ok (.invokestatic 9, 3) := by decide +kernel
theorem dX3_init_26 : decode cX3_init 26 = .ok (.invokestatic 15, 3) := by decide +kernel
theorem dX3_init_29 : decode cX3_init 29 = .ok (.putfield 22, 3) := by decide +kernel
theorem dX3_init_32 : decode cX3_init 32 = .ok (.aload_n 0, 1) := by decide +kernel
theorem dX3_init_33 : decode cX3_init 33 = .ok (.aload_n 0, 1) := by decide +kernel
theorem dX3_init_34 : decode cX3_init 34 = .ok (.getfield 18, 3) := by decide +kernel
theorem dX3_init_37 : decode cX3_init 37 = .ok (.aload_n 0, 1) := by decide +kernel
theorem dX3_init_38 : decode cX3_init 38 = .ok (.getfield 22, 3) := by decide +kernel
theorem dX3_init_41 : decode cX3_init 41 = .ok (.imul, 1) := by decide +kernel
theorem dX3_init_42 : decode cX3_init 42 = .ok (.putfield 25, 3) := by decide +kernel
theorem dX3_init_45 : decode cX3_init 45 = .ok (.aload_n 0, 1) := by decide +kernel
theorem dX3_init_46 : decode cX3_init 46 = .ok (.aload_n 0, 1) := by decide +kernel
theorem dX3_init_47 : decode cX3_init 47 = .ok (.getfield 25, 3) := by decide +kernel
theorem dX3_init_50 : decode cX3_init 50 = .ok (.newarray .int, 2) := by decide +kernel
theorem dX3_init_52 : decode cX3_init 52 = .ok (.putfield 28, 3) := by decide +kernel
theorem dX3_init_55 : decode cX3_init 55 = .ok (.aload_n 0, 1) := by decide +kernel
theorem dX3_init_56 : decode cX3_init 56 = .ok (.aload_n 0, 1) := by decide +kernel
theorem dX3_init_57 : decode cX3_init 57 = .ok (.getfield 25, 3) := by decide +kernel
theorem dX3_init_60 : decode cX3_init 60 = .ok (.newarray .int, 2) := by decide +kernel
theorem dX3_init_62 : decode cX3_init 62 = .ok (.putfield 32, 3) := by decide +kernel
theorem dX3_init_65 : decode cX3_init 65 = .ok (.aload_n 0, 1) := by decide +kernel
theorem dX3_init_66 : decode cX3_init 66 = .ok (.bipush 6, 2) := by decide +kernel
theorem dX3_init_68 : decode cX3_init 68 = .ok (.anewarray 35, 3) := by decide +kernel
theorem dX3_init_71 : decode cX3_init 71 = .ok (.putfield 37, 3) := by decide +kernel
theorem dX3_init_74 : decode cX3_init 74 = .ok (.iconst 0, 1) := by decide +kernel
theorem dX3_init_75 : decode cX3_init 75 = .ok (.istore_n 3, 1) := by decide +kernel
theorem dX3_init_76 : decode cX3_init 76 = .ok (.iload_n 3, 1) := by decide +kernel
theorem dX3_init_77 : decode cX3_init 77 = .ok (.bipush 6, 2) := by decide +kernel
theorem dX3_init_79 : decode cX3_init 79 = .ok (.if_icmp .ge 26, 3) := by decide +kernel
theorem dX3_init_82 : decode cX3_init 82 = .ok (.aload_n 0, 1) := by decide +kernel
theorem dX3_init_83 : decode cX3_init 83 = .ok (.getfield 37, 3) := by decide +kernel
theorem dX3_init_86 : decode cX3_init 86 = .ok (.iload_n 3, 1) := by decide +kernel
theorem dX3_init_87 : decode cX3_init 87 = .ok (.new 35, 3) := by decide +kernel
theorem dX3_init_90 : decode cX3_init 90 = .ok (.dup, 1) := by decide +kernel
theorem dX3_init_91 : decode cX3_init 91 = .ok (.aload_n 0, 1) := by decide +kernel
theorem dX3_init_92 : decode cX3_init 92 = .ok (.getfield 25, 3) := by decide +kernel
theorem dX3_init_95 : decode cX3_init 95 = .ok (.invokespecial 41, 3) := by decide +kernel
theorem dX3_init_98 : decode cX3_init 98 = .ok (.aastore, 1) := by decide +kernel
theorem dX3_init_99 : decode cX3_init 99 = .ok (.iinc 3 1, 3) := by decide +kernel
theorem dX3_init_102 : decode cX3_init 102 = .ok (.goto (-26), 3) := by decide +kernel
theorem dX3_init_105 : decode cX3_init 105 = .ok (.iconst 0, 1) := by decide +kernel
theorem dX3_init_106 : decode cX3_init 106 = .ok (.istore_n 3, 1) := by decide +kernel
theorem dX3_init_107 : decode cX3_init 107 = .ok (.iload_n 3, 1) := by decide +kernel
theorem dX3_init_108 : decode cX3_init 108 = .ok (.aload_n 0, 1) := by decide +kernel
theorem dX3_init_109 : decode cX3_init 109 = .ok (.getfield 25, 3) := by decide +kernel
theorem dX3_init_112 : decode cX3_init 112 = .ok (.if_icmp .ge 18, 3) := by decide +kernel
theorem dX3_init_115 : decode cX3_init 115 = .ok (.aload_n 0, 1) := by decide +kernel
theorem dX3_init_116 : decode cX3_init 116 = .ok (.getfield 28, 3) := by decide +kernel
theorem dX3_init_119 : decode cX3_init 119 = .ok (.iload_n 3, 1) := by decide +kernel
theorem dX3_init_120 : decode cX3_init 120 = .ok (.sipush 255, 3) := by decide +kernel
theorem dX3_init_123 : decode cX3_init 123 = .ok (.iastore, 1) := by decide +kernel
theorem dX3_init_124 : decode cX3_init 124 = .ok (.iinc 3 1, 3) := by decide +kernel
theorem dX3_init_127 : decode cX3_init 127 = .ok (.goto (-20), 3) := by decide +kernel
theorem dX3_init_130 : decode cX3_init 130 = .ok (.aload_n 0, 1) := by decide +kernel
theorem dX3_init_131 : decode cX3_init 131 = .ok (.bipush 6, 2) := by decide +kernel
theorem dX3_init_133 : decode cX3_init 133 = .ok (.putfield 44, 3) := by decide +kernel
theorem dX3_init_136 : decode cX3_init 136 = .ok (.aload_n 0, 1) := by decide +kernel
theorem dX3_init_137 : decode cX3_init 137 = .ok (.iconst 1, 1) := by decide +kernel
theorem dX3_init_138 : decode cX3_init 138 = .ok (.putfield 47, 3) := by decide +kernel
theorem dX3_init_141 : decode cX3_init 141 = .ok (.aload_n 0, 1) := by decide +kernel
theorem dX3_init_142 : decode cX3_init 142 = .ok (.iconst 1, 1) := by decide +kernel
theorem dX3_init_143 : decode cX3_init 143 = .ok (.putfield 50, 3) := by decide +kernel
theorem dX3_init_146 : decode cX3_init 146 = .ok (.return_, 1) := by decide +kernel
theorem dX3_told_0 : decode cX3_told 0 = .ok (.iload_n 1, 1) := by decide +kernel
theorem dX3_told_1 : decode cX3_told 1 = .ok (.tableswitch 77 0 5 #[39, 44, 49, 54, 59, 72], 39) := by decide +kernel
theorem dX3_told_40 : decode cX3_told 40 = .ok (.aload_n 0, 1) := by decide +kernel
theorem dX3_told_41 : decode cX3_told 41 = .ok (.getfield 18, 3) := by decide +kernel
theorem dX3_told_44 : decode cX3_told 44 = .ok (.ireturn, 1) := by decide +kernel
theorem dX3_told_45 : decode cX3_told 45 = .ok (.aload_n 0, 1) := by decide +kernel
theorem dX3_told_46 : decode cX3_told 46 = .ok (.getfield 22, 3) := by decide +kernel
theorem dX3_told_49 : decode cX3_told 49 = .ok (.ireturn, 1) := by decide +kernel
theorem dX3_told_50 : decode cX3_told 50 = .ok (.aload_n 0, 1) := by decide +kernel
theorem dX3_told_51 : decode cX3_told 51 = .ok (.getfield 47, 3) := by decide +kernel
theorem dX3_told_54 : decode cX3_told 54 = .ok (.ireturn, 1) := by decide +kernel
theorem dX3_told_55 : decode cX3_told 55 = .ok (.aload_n 0, 1) := by decide +kernel
theorem dX3_told_56 : decode cX3_told 56 = .ok (.getfield 44, 3) := by decide +kernel
theorem dX3_told_59 : decode cX3_told 59 = .ok (.ireturn, 1) := by decide +kernel
theorem dX3_told_60 : decode cX3_told 60 = .ok (.aload_n 0, 1) := by decide +kernel
theorem dX3_told_61 : decode cX3_told 61 = .ok (.getfield 53, 3) := by decide +kernel
theorem dX3_told_64 : decode cX3_told 64 = .ok (.ifCond .eq 7, 3) := by decide +kernel
theorem dX3_told_67 : decode cX3_told 67 = .ok (.iconst 1, 1) := by decide +kernel
theorem dX3_told_68 : decode cX3_told 68 = .ok (.goto 4, 3) := by decide +kernel
theorem dX3_told_71 : decode cX3_told 71 = .ok (.iconst 0, 1) := by decide +kernel
theorem dX3_told_72 : decode cX3_told 72 = .ok (.ireturn, 1) := by decide +kernel
theorem dX3_told_73 : decode cX3_told 73 = .ok (.aload_n 0, 1) := by decide +kernel
theorem dX3_told_74 : decode cX3_told 74 = .ok (.getfield 57, 3) := by decide +kernel
theorem dX3_told_77 : decode cX3_told 77 = .ok (.ireturn, 1) := by decide +kernel
theorem dX3_told_78 : decode cX3_told 78 = .ok (.new 60, 3) := by decide +kernel
theorem dX3_told_81 : decode cX3_told 81 = .ok (.dup, 1) := by decide +kernel
theorem dX3_told_82 : decode cX3_told 82 = .ok (.ldc 62, 2) := by decide +kernel
theorem dX3_told_84 : decode cX3_told 84 = .ok (.invokespecial 64, 3) := by decide +kernel
theorem dX3_told_87 : decode cX3_told 87 = .ok (.athrow, 1) := by decide +kernel
theorem dX3_bound_0 : decode cX3_bound 0 = .ok (.iload_n 1, 1) := by decide +kernel
theorem dX3_bound_1 : decode cX3_bound 1 = .ok (.iconst 1, 1) := by decide +kernel
theorem dX3_bound_2 : decode cX3_bound 2 = .ok (.if_icmp .lt 9, 3) := by decide +kernel
theorem dX3_bound_5 : decode cX3_bound 5 = .ok (.iload_n 1, 1) := by decide +kernel
theorem dX3_bound_6 : decode cX3_bound 6 = .ok (.bipush 6, 2) := by decide +kernel
theorem dX3_bound_8 : decode cX3_bound 8 = .ok (.if_icmp .le 13, 3) := by decide +kernel
theorem dX3_bound_11 : decode cX3_bound 11 = .ok (.new 60, 3) := by decide +kernel
theorem dX3_bound_14 : decode cX3_bound 14 = .ok (.dup, 1) := by decide +kernel
theorem dX3_bound_15 : decode cX3_bound 15 = .ok (.ldc 67, 2) := by decide +kernel
theorem dX3_bound_17 : decode cX3_bound 17 = .ok (.invokespecial 64, 3) := by decide +kernel
theorem dX3_bound_20 : decode cX3_bound 20 = .ok (.athrow, 1) := by decide +kernel
theorem dX3_bound_21 : decode cX3_bound 21 = .ok (.aload_n 0, 1) := by decide +kernel
theorem dX3_bound_22 : decode cX3_bound 22 = .ok (.iload_n 1, 1) := by decide +kernel
theorem dX3_bound_23 : decode cX3_bound 23 = .ok (.putfield 44, 3) := by decide +kernel
theorem dX3_bound_26 : decode cX3_bound 26 = .ok (.return_, 1) := by decide +kernel
theorem dX3_group_0 : decode cX3_group 0 = .ok (.aload_n 0, 1) := by decide +kernel
theorem dX3_group_1 : decode cX3_group 1 = .ok (.getfield 47, 3) := by decide +kernel
theorem dX3_group_4 : decode cX3_group 4 = .ok (.bipush 40, 2) := by decide +kernel
theorem dX3_group_6 : decode cX3_group 6 = .ok (.if_icmp .lt 13, 3) := by decide +kernel
theorem dX3_group_9 : decode cX3_group 9 = .ok (.new 69, 3) := by decide +kernel
theorem dX3_group_12 : decode cX3_group 12 = .ok (.dup, 1) := by decide +kernel
theorem dX3_group_13 : decode cX3_group 13 = .ok (.ldc 71, 2) := by decide +kernel
theorem dX3_group_15 : decode cX3_group 15 = .ok (.invokespecial 73, 3) := by decide +kernel
theorem dX3_group_18 : decode cX3_group 18 = .ok (.athrow, 1) := by decide +kernel
theorem dX3_group_19 : decode cX3_group 19 = .ok (.aload_n 0, 1) := by decide +kernel
theorem dX3_group_20 : decode cX3_group 20 = .ok (.invokevirtual 74, 3) := by decide +kernel
theorem dX3_group_23 : decode cX3_group 23 = .ok (.ifCond .ne 14, 3) := by decide +kernel
theorem dX3_group_26 : decode cX3_group 26 = .ok (.aload_n 0, 1) := by decide +kernel
theorem dX3_group_27 : decode cX3_group 27 = .ok (.getfield 47, 3) := by decide +kernel
theorem dX3_group_30 : decode cX3_group 30 = .ok (.aload_n 0, 1) := by decide +kernel
theorem dX3_group_31 : decode cX3_group 31 = .ok (.getfield 44, 3) := by decide +kernel
theorem dX3_group_34 : decode cX3_group 34 = .ok (.if_icmp .lt 7, 3) := by decide +kernel
theorem dX3_group_37 : decode cX3_group 37 = .ok (.iconst 1, 1) := by decide +kernel
theorem dX3_group_38 : decode cX3_group 38 = .ok (.goto 4, 3) := by decide +kernel
theorem dX3_group_41 : decode cX3_group 41 = .ok (.iconst 0, 1) := by decide +kernel
theorem dX3_group_42 : decode cX3_group 42 = .ok (.istore_n 3, 1) := by decide +kernel
theorem dX3_group_43 : decode cX3_group 43 = .ok (.iload_n 3, 1) := by decide +kernel
theorem dX3_group_44 : decode cX3_group 44 = .ok (.ifCond .ne 31, 3) := by decide +kernel
theorem dX3_group_47 : decode cX3_group 47 = .ok (.aload_n 0, 1) := by decide +kernel
theorem dX3_group_48 : decode cX3_group 48 = .ok (.getfield 37, 3) := by decide +kernel
theorem dX3_group_51 : decode cX3_group 51 = .ok (.aload_n 0, 1) := by decide +kernel
theorem dX3_group_52 : decode cX3_group 52 = .ok (.getfield 50, 3) := by decide +kernel
theorem dX3_group_55 : decode cX3_group 55 = .ok (.aaload, 1) := by decide +kernel
theorem dX3_group_56 : decode cX3_group 56 = .ok (.aload_n 0, 1) := by decide +kernel
theorem dX3_group_57 : decode cX3_group 57 = .ok (.invokevirtual 78, 3) := by decide +kernel
theorem dX3_group_60 : decode cX3_group 60 = .ok (.iload_n 1, 1) := by decide +kernel
theorem dX3_group_61 : decode cX3_group 61 = .ok (.iload_n 2, 1) := by decide +kernel
theorem dX3_group_62 : decode cX3_group 62 = .ok (.invokevirtual 82, 3) := by decide +kernel
theorem dX3_group_65 : decode cX3_group 65 = .ok (.aload_n 0, 1) := by decide +kernel
theorem dX3_group_66 : decode cX3_group 66 = .ok (.dup, 1) := by decide +kernel
theorem dX3_group_67 : decode cX3_group 67 = .ok (.getfield 50, 3) := by decide +kernel
theorem dX3_group_70 : decode cX3_group 70 = .ok (.iconst 1, 1) := by decide +kernel
theorem dX3_group_71 : decode cX3_group 71 = .ok (.iadd, 1) := by decide +kernel
theorem dX3_group_72 : decode cX3_group 72 = .ok (.putfield 50, 3) := by decide +kernel
theorem dX3_group_75 : decode cX3_group 75 = .ok (.aload_n 0, 1) := by decide +kernel
theorem dX3_group_76 : decode cX3_group 76 = .ok (.dup, 1) := by decide +kernel
theorem dX3_group_77 : decode cX3_group 77 = .ok (.getfield 47, 3) := by decide +kernel
theorem dX3_group_80 : decode cX3_group 80 = .ok (.iconst 1, 1) := by decide +kernel
theorem dX3_group_81 : decode cX3_group 81 = .ok (.iadd, 1) := by decide +kernel
theorem dX3_group_82 : decode cX3_group 82 = .ok (.putfield 47, 3) := by decide +kernel
theorem dX3_group_85 : decode cX3_group 85 = .ok (.aload_n 0, 1) := by decide +kernel
theorem dX3_group_86 : decode cX3_group 86 = .ok (.getfield 47, 3) := by decide +kernel
theorem dX3_group_89 : decode cX3_group 89 = .ok (.ireturn, 1) := by decide +kernel
theorem dX3_end_0 : decode cX3_end 0 = .ok (.aload_n 0, 1) := by decide +kernel
theorem dX3_end_1 : decode cX3_end 1 = .ok (.invokevirtual 86, 3) := by decide +kernel
theorem dX3_end_4 : decode cX3_end 4 = .ok (.iload_n 1, 1) := by decide +kernel
theorem dX3_end_5 : decode cX3_end 5 = .ok (.bipush 15, 2) := by decide +kernel
theorem dX3_end_7 : decode cX3_end 7 = .ok (.invokestatic 89, 3) := by decide +kernel
theorem dX3_end_10 : decode cX3_end 10 = .ok (.iload_n 2, 1) := by decide +kernel
theorem dX3_end_11 : decode cX3_end 11 = .ok (.invokestatic 93, 3) := by decide +kernel
theorem dX3_end_14 : decode cX3_end 14 = .ok (.aload_n 0, 1) := by decide +kernel
theorem dX3_end_15 : decode cX3_end 15 = .ok (.invokevirtual 74, 3) := by decide +kernel
theorem dX3_end_18 : decode cX3_end 18 = .ok (.ifCond .ne 91, 3) := by decide +kernel
theorem dX3_end_21 : decode cX3_end 21 = .ok (.aload_n 0, 1) := by decide +kernel
theorem dX3_end_22 : decode cX3_end 22 = .ok (.invokevirtual 96, 3) := by decide +kernel
theorem dX3_end_25 : decode cX3_end 25 = .ok (.astore_n 3, 1) := by decide +kernel
theorem dX3_end_26 : decode cX3_end 26 = .ok (.iconst 0, 1) := by decide +kernel
theorem dX3_end_27 : decode cX3_end 27 = .ok (.istore 4, 2) := by decide +kernel
theorem dX3_end_29 : decode cX3_end 29 = .ok (.iload 4, 2) := by decide +kernel
theorem dX3_end_31 : decode cX3_end 31 = .ok (.aload_n 0, 1) := by decide +kernel
theorem dX3_end_32 : decode cX3_end 32 = .ok (.getfield 25, 3) := by decide +kernel
theorem dX3_end_35 : decode cX3_end 35 = .ok (.if_icmp .ge 64, 3) := by decide +kernel
theorem dX3_end_38 : decode cX3_end 38 = .ok (.aload_n 3, 1) := by decide +kernel
theorem dX3_end_39 : decode cX3_end 39 = .ok (.iload 4, 2) := by decide +kernel
theorem dX3_end_41 : decode cX3_end 41 = .ok (.invokevirtual 99, 3) := by decide +kernel
theorem dX3_end_44 : decode cX3_end 44 = .ok (.istore 5, 2) := by decide +kernel
theorem dX3_end_46 : decode cX3_end 46 = .ok (.aload_n 3, 1) := by decide +kernel
theorem dX3_end_47 : decode cX3_end 47 = .ok (.iload 4, 2) := by decide +kernel
theorem dX3_end_49 : decode cX3_end 49 = .ok (.invokevirtual 103, 3) := by decide +kernel
theorem dX3_end_52 : decode cX3_end 52 = .ok (.iload_n 2, 1) := by decide +kernel
theorem dX3_end_53 : decode cX3_end 53 = .ok (.invokestatic 106, 3) := by decide +kernel
theorem dX3_end_56 : decode cX3_end 56 = .ok (.iload 5, 2) := by decide +kernel
theorem dX3_end_58 : decode cX3_end 58 = .ok (.invokestatic 9, 3) := by decide +kernel
theorem dX3_end_61 : decode cX3_end 61 = .ok (.istore 6, 2) := by decide +kernel
theorem dX3_end_63 : decode cX3_end 63 = .ok (.aload_n 0, 1) := by decide +kernel
theorem dX3_end_64 : decode cX3_end 64 = .ok (.invokevirtual 78, 3) := by decide +kernel
theorem dX3_end_67 : decode cX3_end 67 = .ok (.iload 4, 2) := by decide +kernel
theorem dX3_end_69 : decode cX3_end 69 = .ok (.aload_n 3, 1) := by decide +kernel
theorem dX3_end_70 : decode cX3_end 70 = .ok (.iload 4, 2) := by decide +kernel
theorem dX3_end_72 : decode cX3_end 72 = .ok (.invokevirtual 111, 3) := by decide +kernel
theorem dX3_end_75 : decode cX3_end 75 = .ok (.iload 5, 2) := by decide +kernel
theorem dX3_end_77 : decode cX3_end 77 = .ok (.aload_n 0, 1) := by decide +kernel
theorem dX3_end_78 : decode cX3_end 78 = .ok (.iload 4, 2) := by decide +kernel
theorem dX3_end_80 : decode cX3_end 80 = .ok (.iload 6, 2) := by decide +kernel
theorem dX3_end_82 : decode cX3_end 82 = .ok (.invokevirtual 114, 3) := by decide +kernel
theorem dX3_end_85 : decode cX3_end 85 = .ok (.iload_n 1, 1) := by decide +kernel
theorem dX3_end_86 : decode cX3_end 86 = .ok (.aload_n 0, 1) := by decide +kernel
theorem dX3_end_87 : decode cX3_end 87 = .ok (.getfield 117, 3) := by decide +kernel
theorem dX3_end_90 : decode cX3_end 90 = .ok (.invokevirtual 120, 3) := by decide +kernel
theorem dX3_end_93 : decode cX3_end 93 = .ok (.iinc 4 1, 3) := by decide +kernel
theorem dX3_end_96 : decode cX3_end 96 = .ok (.goto (-67), 3) := by decide +kernel
theorem dX3_end_99 : decode cX3_end 99 = .ok (.aload_n 0, 1) := by decide +kernel
theorem dX3_end_100 : decode cX3_end 100 = .ok (.dup, 1) := by decide +kernel
theorem dX3_end_101 : decode cX3_end 101 = .ok (.getfield 57, 3) := by decide +kernel
theorem dX3_end_104 : decode cX3_end 104 = .ok (.iconst 1, 1) := by decide +kernel
theorem dX3_end_105 : decode cX3_end 105 = .ok (.iadd, 1) := by decide +kernel
theorem dX3_end_106 : decode cX3_end 106 = .ok (.putfield 57, 3) := by decide +kernel
theorem dX3_end_109 : decode cX3_end 109 = .ok (.aload_n 0, 1) := by decide +kernel
theorem dX3_end_110 : decode cX3_end 110 = .ok (.dup, 1) := by decide +kernel
theorem dX3_end_111 : decode cX3_end 111 = .ok (.getfield 47, 3) := by decide +kernel
theorem dX3_end_114 : decode cX3_end 114 = .ok (.iconst 1, 1) := by decide +kernel
theorem dX3_end_115 : decode cX3_end 115 = .ok (.isub, 1) := by decide +kernel
theorem dX3_end_116 : decode cX3_end 116 = .ok (.putfield 47, 3) := by decide +kernel
theorem dX3_end_119 : decode cX3_end 119 = .ok (.aload_n 0, 1) := by decide +kernel
theorem dX3_end_120 : decode cX3_end 120 = .ok (.getfield 47, 3) := by decide +kernel
theorem dX3_end_123 : decode cX3_end 123 = .ok (.ireturn, 1) := by decide +kernel
theorem dX3_mask_0 : decode cX3_mask 0 = .ok (.aload_n 0, 1) := by decide +kernel
theorem dX3_mask_1 : decode cX3_mask 1 = .ok (.invokevirtual 86, 3) := by decide +kernel
theorem dX3_mask_4 : decode cX3_mask 4 = .ok (.iload_n 1, 1) := by decide +kernel
theorem dX3_mask_5 : decode cX3_mask 5 = .ok (.iconst 1, 1) := by decide +kernel
theorem dX3_mask_6 : decode cX3_mask 6 = .ok (.if_icmp .eq 18, 3) := by decide +kernel
theorem dX3_mask_9 : decode cX3_mask 9 = .ok (.iload_n 1, 1) := by decide +kernel
theorem dX3_mask_10 : decode cX3_mask 10 = .ok (.iconst 2, 1) := by decide +kernel
theorem dX3_mask_11 : decode cX3_mask 11 = .ok (.if_icmp .eq 13, 3) := by decide +kernel
theorem dX3_mask_14 : decode cX3_mask 14 = .ok (.new 60, 3) := by decide +kernel
theorem dX3_mask_17 : decode cX3_mask 17 = .ok (.dup, 1) := by decide +kernel
theorem dX3_mask_18 : decode cX3_mask 18 = .ok (.ldc 124, 2) := by decide +kernel
theorem dX3_mask_20 : decode cX3_mask 20 = .ok (.invokespecial 64, 3) := by decide +kernel
theorem dX3_mask_23 : decode cX3_mask 23 = .ok (.athrow, 1) := by decide +kernel
theorem dX3_mask_24 : decode cX3_mask 24 = .ok (.aload_n 0, 1) := by decide +kernel
theorem dX3_mask_25 : decode cX3_mask 25 = .ok (.invokevirtual 74, 3) := by decide +kernel
theorem dX3_mask_28 : decode cX3_mask 28 = .ok (.ifCond .ne 75, 3) := by decide +kernel
theorem dX3_mask_31 : decode cX3_mask 31 = .ok (.aload_n 0, 1) := by decide +kernel
theorem dX3_mask_32 : decode cX3_mask 32 = .ok (.invokevirtual 96, 3) := by decide +kernel
theorem dX3_mask_35 : decode cX3_mask 35 = .ok (.astore_n 3, 1) := by decide +kernel
theorem dX3_mask_36 : decode cX3_mask 36 = .ok (.iconst 0, 1) := by decide +kernel
theorem dX3_mask_37 : decode cX3_mask 37 = .ok (.istore 4, 2) := by decide +kernel
theorem dX3_mask_39 : decode cX3_mask 39 = .ok (.iload 4, 2) := by decide +kernel
theorem dX3_mask_41 : decode cX3_mask 41 = .ok (.aload_n 0, 1) := by decide +kernel
theorem dX3_mask_42 : decode cX3_mask 42 = .ok (.getfield 25, 3) := by decide +kernel
theorem dX3_mask_45 : decode cX3_mask 45 = .ok (.if_icmp .ge 53, 3) := by decide +kernel
theorem dX3_mask_48 : decode cX3_mask 48 = .ok (.iload_n 1, 1) := by decide +kernel
theorem dX3_mask_49 : decode cX3_mask 49 = .ok (.iconst 1, 1) := by decide +kernel
theorem dX3_mask_50 : decode cX3_mask 50 = .ok (.if_icmp .ne 12, 3) := by decide +kernel
theorem dX3_mask_53 : decode cX3_mask 53 = .ok (.aload_n 3, 1) := by decide +kernel
theorem dX3_mask_54 : decode cX3_mask 54 = .ok (.iload 4, 2) := by decide +kernel
theorem dX3_mask_56 : decode cX3_mask 56 = .ok (.invokevirtual 103, 3) := by decide +kernel
theorem dX3_mask_59 : decode cX3_mask 59 = .ok (.goto 9, 3) := by decide +kernel
theorem dX3_mask_62 : decode cX3_mask 62 = .ok (.aload_n 3, 1) := by decide +kernel
theorem dX3_mask_63 : decode cX3_mask 63 = .ok (.iload 4, 2) := by decide +kernel
theorem dX3_mask_65 : decode cX3_mask 65 = .ok (.invokevirtual 126, 3) := by decide +kernel
theorem dX3_mask_68 : decode cX3_mask 68 = .ok (.istore 5, 2) := by decide +kernel
theorem dX3_mask_70 : decode cX3_mask 70 = .ok (.aload_n 0, 1) := by decide +kernel
theorem dX3_mask_71 : decode cX3_mask 71 = .ok (.getfield 32, 3) := by decide +kernel
theorem dX3_mask_74 : decode cX3_mask 74 = .ok (.iload 4, 2) := by decide +kernel
theorem dX3_mask_76 : decode cX3_mask 76 = .ok (.iload_n 2, 1) := by decide +kernel
theorem dX3_mask_77 : decode cX3_mask 77 = .ok (.ifCond .eq 12, 3) := by decide +kernel
theorem dX3_mask_80 : decode cX3_mask 80 = .ok (.sipush 255, 3) := by decide +kernel
theorem dX3_mask_83 : decode cX3_mask 83 = .ok (.iload 5, 2) := by decide +kernel
theorem dX3_mask_85 : decode cX3_mask 85 = .ok (.isub, 1) := by decide +kernel
theorem dX3_mask_86 : decode cX3_mask 86 = .ok (.goto 5, 3) := by decide +kernel
theorem dX3_mask_89 : decode cX3_mask 89 = .ok (.iload 5, 2) := by decide +kernel
theorem dX3_mask_91 : decode cX3_mask 91 = .ok (.iastore, 1) := by decide +kernel
theorem dX3_mask_92 : decode cX3_mask 92 = .ok (.iinc 4 1, 3) := by decide +kernel
theorem dX3_mask_95 : decode cX3_mask 95 = .ok (.goto (-56), 3) := by decide +kernel
theorem dX3_mask_98 : decode cX3_mask 98 = .ok (.aload_n 0, 1) := by decide +kernel
theorem dX3_mask_99 : decode cX3_mask 99 = .ok (.iconst 1, 1) := by decide +kernel
theorem dX3_mask_100 : decode cX3_mask 100 = .ok (.putfield 53, 3) := by decide +kernel
theorem dX3_mask_103 : decode cX3_mask 103 = .ok (.aload_n 0, 1) := by decide +kernel
theorem dX3_mask_104 : decode cX3_mask 104 = .ok (.dup, 1) := by decide +kernel
theorem dX3_mask_105 : decode cX3_mask 105 = .ok (.getfield 47, 3) := by decide +kernel
theorem dX3_mask_108 : decode cX3_mask 108 = .ok (.iconst 1, 1) := by decide +kernel
theorem dX3_mask_109 : decode cX3_mask 109 = .ok (.isub, 1) := by decide +kernel
theorem dX3_mask_110 : decode cX3_mask 110 = .ok (.putfield 47, 3) := by decide +kernel
theorem dX3_mask_113 : decode cX3_mask 113 = .ok (.aload_n 0, 1) := by decide +kernel
theorem dX3_mask_114 : decode cX3_mask 114 = .ok (.getfield 47, 3) := by decide +kernel
theorem dX3_mask_117 : decode cX3_mask 117 = .ok (.ireturn, 1) := by decide +kernel
theorem dX3_unmask_0 : decode cX3_unmask 0 = .ok (.aload_n 0, 1) := by decide +kernel
theorem dX3_unmask_1 : decode cX3_unmask 1 = .ok (.iconst 0, 1) := by decide +kernel
theorem dX3_unmask_2 : decode cX3_unmask 2 = .ok (.putfield 53, 3) := by decide +kernel
theorem dX3_unmask_5 : decode cX3_unmask 5 = .ok (.return_, 1) := by decide +kernel
theorem dX3_colour_0 : decode cX3_colour 0 = .ok (.iload_n 2, 1) := by decide +kernel
theorem dX3_colour_1 : decode cX3_colour 1 = .ok (.invokestatic 93, 3) := by decide +kernel
theorem dX3_colour_4 : decode cX3_colour 4 = .ok (.iload_n 1, 1) := by decide +kernel
theorem dX3_colour_5 : decode cX3_colour 5 = .ok (.invokestatic 129, 3) := by decide +kernel
theorem dX3_colour_8 : decode cX3_colour 8 = .ok (.aload_n 0, 1) := by decide +kernel
theorem dX3_colour_9 : decode cX3_colour 9 = .ok (.aload_n 0, 1) := by decide +kernel
theorem dX3_colour_10 : decode cX3_colour 10 = .ok (.getfield 132, 3) := by decide +kernel
theorem dX3_colour_13 : decode cX3_colour 13 = .ok (.sipush 255, 3) := by decide +kernel
theorem dX3_colour_16 : decode cX3_colour 16 = .ok (.bipush 8, 2) := by decide +kernel
theorem dX3_colour_18 : decode cX3_colour 18 = .ok (.iload_n 1, 1) := by decide +kernel
theorem dX3_colour_19 : decode cX3_colour 19 = .ok (.imul, 1) := by decide +kernel
theorem dX3_colour_20 : decode cX3_colour 20 = .ok (.ishl, 1) := by decide +kernel
theorem dX3_colour_21 : decode cX3_colour 21 = .ok (.iconst (-1), 1) := by decide +kernel
theorem dX3_colour_22 : decode cX3_colour 22 = .ok (.ixor, 1) := by decide +kernel
theorem dX3_colour_23 : decode cX3_colour 23 = .ok (.iand, 1) := by decide +kernel
theorem dX3_colour_24 : decode cX3_colour 24 = .ok (.iload_n 2, 1) := by decide +kernel
theorem dX3_colour_25 : decode cX3_colour 25 = .ok (.bipush 8, 2) := by decide +kernel
theorem dX3_colour_27 : decode cX3_colour 27 = .ok (.iload_n 1, 1) := by decide +kernel
theorem dX3_colour_28 : decode cX3_colour 28 = .ok (.imul, 1) := by decide +kernel
theorem dX3_colour_29 : decode cX3_colour 29 = .ok (.ishl, 1) := by decide +kernel
theorem dX3_colour_30 : decode cX3_colour 30 = .ok (.ior, 1) := by decide +kernel
theorem dX3_colour_31 : decode cX3_colour 31 = .ok (.putfield 132, 3) := by decide +kernel
theorem dX3_colour_34 : decode cX3_colour 34 = .ok (.return_, 1) := by decide +kernel
theorem dX3_stays_0 : decode cX3_stays 0 = .ok (.iload_n 1, 1) := by decide +kernel
theorem dX3_stays_1 : decode cX3_stays 1 = .ok (.invokestatic 129, 3) := by decide +kernel
theorem dX3_stays_4 : decode cX3_stays 4 = .ok (.iconst 1, 1) := by decide +kernel
theorem dX3_stays_5 : decode cX3_stays 5 = .ok (.iload_n 1, 1) := by decide +kernel
theorem dX3_stays_6 : decode cX3_stays 6 = .ok (.ishl, 1) := by decide +kernel
theorem dX3_stays_7 : decode cX3_stays 7 = .ok (.istore_n 3, 1) := by decide +kernel
theorem dX3_stays_8 : decode cX3_stays 8 = .ok (.aload_n 0, 1) := by decide +kernel
theorem dX3_stays_9 : decode cX3_stays 9 = .ok (.iload_n 2, 1) := by decide +kernel
theorem dX3_stays_10 : decode cX3_stays 10 = .ok (.ifCond .eq 12, 3) := by decide +kernel
theorem dX3_stays_13 : decode cX3_stays 13 = .ok (.aload_n 0, 1) := by decide +kernel
theorem dX3_stays_14 : decode cX3_stays 14 = .ok (.getfield 117, 3) := by decide +kernel
theorem dX3_stays_17 : decode cX3_stays 17 = .ok (.iload_n 3, 1) := by decide +kernel
theorem dX3_stays_18 : decode cX3_stays 18 = .ok (.ior, 1) := by decide +kernel
theorem dX3_stays_19 : decode cX3_stays 19 = .ok (.goto 11, 3) := by decide +kernel
theorem dX3_stays_22 : decode cX3_stays 22 = .ok (.aload_n 0, 1) := by decide +kernel
theorem dX3_stays_23 : decode cX3_stays 23 = .ok (.getfield 117, 3) := by decide +kernel
theorem dX3_stays_26 : decode cX3_stays 26 = .ok (.iload_n 3, 1) := by decide +kernel
theorem dX3_stays_27 : decode cX3_stays 27 = .ok (.iconst (-1), 1) := by decide +kernel
theorem dX3_stays_28 : decode cX3_stays 28 = .ok (.ixor, 1) := by decide +kernel
theorem dX3_stays_29 : decode cX3_stays 29 = .ok (.iand, 1) := by decide +kernel
theorem dX3_stays_30 : decode cX3_stays 30 = .ok (.putfield 117, 3) := by decide +kernel
theorem dX3_stays_33 : decode cX3_stays 33 = .ok (.return_, 1) := by decide +kernel
theorem dX3_cover_0 : decode cX3_cover 0 = .ok (.iload_n 3, 1) := by decide +kernel
theorem dX3_cover_1 : decode cX3_cover 1 = .ok (.invokestatic 93, 3) := by decide +kernel
theorem dX3_cover_4 : decode cX3_cover 4 = .ok (.aload_n 0, 1) := by decide +kernel
theorem dX3_cover_5 : decode cX3_cover 5 = .ok (.iload_n 1, 1) := by decide +kernel
theorem dX3_cover_6 : decode cX3_cover 6 = .ok (.iload_n 2, 1) := by decide +kernel
theorem dX3_cover_7 : decode cX3_cover 7 = .ok (.invokevirtual 135, 3) := by decide +kernel
theorem dX3_cover_10 : decode cX3_cover 10 = .ok (.aload_n 0, 1) := by decide +kernel
theorem dX3_cover_11 : decode cX3_cover 11 = .ok (.getfield 28, 3) := by decide +kernel
theorem dX3_cover_14 : decode cX3_cover 14 = .ok (.iload_n 2, 1) := by decide +kernel
theorem dX3_cover_15 : decode cX3_cover 15 = .ok (.aload_n 0, 1) := by decide +kernel
theorem dX3_cover_16 : decode cX3_cover 16 = .ok (.getfield 18, 3) := by decide +kernel
theorem dX3_cover_19 : decode cX3_cover 19 = .ok (.imul, 1) := by decide +kernel
theorem dX3_cover_20 : decode cX3_cover 20 = .ok (.iload_n 1, 1) := by decide +kernel
theorem dX3_cover_21 : decode cX3_cover 21 = .ok (.iadd, 1) := by decide +kernel
theorem dX3_cover_22 : decode cX3_cover 22 = .ok (.iload_n 3, 1) := by decide +kernel
theorem dX3_cover_23 : decode cX3_cover 23 = .ok (.iastore, 1) := by decide +kernel
theorem dX3_cover_24 : decode cX3_cover 24 = .ok (.return_, 1) := by decide +kernel
theorem dX3_fill_0 : decode cX3_fill 0 = .ok (.iload 5, 2) := by decide +kernel
theorem dX3_fill_2 : decode cX3_fill 2 = .ok (.invokestatic 93, 3) := by decide +kernel
theorem dX3_fill_5 : decode cX3_fill 5 = .ok (.iload_n 3, 1) := by decide +kernel
theorem dX3_fill_6 : decode cX3_fill 6 = .ok (.aload_n 0, 1) := by decide +kernel
theorem dX3_fill_7 : decode cX3_fill 7 = .ok (.getfield 18, 3) := by decide +kernel
theorem dX3_fill_10 : decode cX3_fill 10 = .ok (.iconst 1, 1) := by decide +kernel
theorem dX3_fill_11 : decode cX3_fill 11 = .ok (.isub, 1) := by decide +kernel
theorem dX3_fill_12 : decode cX3_fill 12 = .ok (.invokestatic 9, 3) := by decide +kernel
theorem dX3_fill_15 : decode cX3_fill 15 = .ok (.istore 6, 2) := by decide +kernel
theorem dX3_fill_17 : decode cX3_fill 17 = .ok (.iload 4, 2) := by decide +kernel
theorem dX3_fill_19 : decode cX3_fill 19 = .ok (.aload_n 0, 1) := by decide +kernel
theorem dX3_fill_20 : decode cX3_fill 20 = .ok (.getfield 22, 3) := by decide +kernel
theorem dX3_fill_23 : decode cX3_fill 23 = .ok (.iconst 1, 1) := by decide +kernel
theorem dX3_fill_24 : decode cX3_fill 24 = .ok (.isub, 1) := by decide +kernel
theorem dX3_fill_25 : decode cX3_fill 25 = .ok (.invokestatic 9, 3) := by decide +kernel
theorem dX3_fill_28 : decode cX3_fill 28 = .ok (.istore 7, 2) := by decide +kernel
theorem dX3_fill_30 : decode cX3_fill 30 = .ok (.iload_n 2, 1) := by decide +kernel
theorem dX3_fill_31 : decode cX3_fill 31 = .ok (.iconst 0, 1) := by decide +kernel
theorem dX3_fill_32 : decode cX3_fill 32 = .ok (.invokestatic 15, 3) := by decide +kernel
theorem dX3_fill_35 : decode cX3_fill 35 = .ok (.istore 8, 2) := by decide +kernel
theorem dX3_fill_37 : decode cX3_fill 37 = .ok (.iload 8, 2) := by decide +kernel
theorem dX3_fill_39 : decode cX3_fill 39 = .ok (.iload 7, 2) := by decide +kernel
theorem dX3_fill_41 : decode cX3_fill 41 = .ok (.if_icmp .gt 46, 3) := by decide +kernel
theorem dX3_fill_44 : decode cX3_fill 44 = .ok (.iload_n 1, 1) := by decide +kernel
theorem dX3_fill_45 : decode cX3_fill 45 = .ok (.iconst 0, 1) := by decide +kernel
theorem dX3_fill_46 : decode cX3_fill 46 = .ok (.invokestatic 15, 3) := by decide +kernel
theorem dX3_fill_49 : decode cX3_fill 49 = .ok (.istore 9, 2) := by decide +kernel
theorem dX3_fill_51 : decode cX3_fill 51 = .ok (.iload 9, 2) := by decide +kernel
theorem dX3_fill_53 : decode cX3_fill 53 = .ok (.iload 6, 2) := by decide +kernel
theorem dX3_fill_55 : decode cX3_fill 55 = .ok (.if_icmp .gt 26, 3) := by decide +kernel
theorem dX3_fill_58 : decode cX3_fill 58 = .ok (.aload_n 0, 1) := by decide +kernel
theorem dX3_fill_59 : decode cX3_fill 59 = .ok (.getfield 28, 3) := by decide +kernel
theorem dX3_fill_62 : decode cX3_fill 62 = .ok (.iload 8, 2) := by decide +kernel
theorem dX3_fill_64 : decode cX3_fill 64 = .ok (.aload_n 0, 1) := by decide +kernel
theorem dX3_fill_65 : decode cX3_fill 65 = .ok (.getfield 18, 3) := by decide +kernel
theorem dX3_fill_68 : decode cX3_fill 68 = .ok (.imul, 1) := by decide +kernel
theorem dX3_fill_69 : decode cX3_fill 69 = .ok (.iload 9, 2) := by decide +kernel
theorem dX3_fill_71 : decode cX3_fill 71 = .ok (.iadd, 1) := by decide +kernel
theorem dX3_fill_72 : decode cX3_fill 72 = .ok (.iload 5, 2) := by decide +kernel
theorem dX3_fill_74 : decode cX3_fill 74 = .ok (.iastore, 1) := by decide +kernel
theorem dX3_fill_75 : decode cX3_fill 75 = .ok (.iinc 9 1, 3) := by decide +kernel
theorem dX3_fill_78 : decode cX3_fill 78 = .ok (.goto (-27), 3) := by decide +kernel
theorem dX3_fill_81 : decode cX3_fill 81 = .ok (.iinc 8 1, 3) := by decide +kernel
theorem dX3_fill_84 : decode cX3_fill 84 = .ok (.goto (-47), 3) := by decide +kernel
theorem dX3_fill_87 : decode cX3_fill 87 = .ok (.return_, 1) := by decide +kernel
theorem dX3_mark_0 : decode cX3_mark 0 = .ok (.iload_n 1, 1) := by decide +kernel
theorem dX3_mark_1 : decode cX3_mark 1 = .ok (.bipush 15, 2) := by decide +kernel
theorem dX3_mark_3 : decode cX3_mark 3 = .ok (.invokestatic 89, 3) := by decide +kernel
theorem dX3_mark_6 : decode cX3_mark 6 = .ok (.iload_n 2, 1) := by decide +kernel
theorem dX3_mark_7 : decode cX3_mark 7 = .ok (.invokestatic 93, 3) := by decide +kernel
theorem dX3_mark_10 : decode cX3_mark 10 = .ok (.iload_n 3, 1) := by decide +kernel
theorem dX3_mark_11 : decode cX3_mark 11 = .ok (.invokestatic 93, 3) := by decide +kernel
theorem dX3_mark_14 : decode cX3_mark 14 = .ok (.aload_n 0, 1) := by decide +kernel
theorem dX3_mark_15 : decode cX3_mark 15 = .ok (.invokevirtual 78, 3) := by decide +kernel
theorem dX3_mark_18 : decode cX3_mark 18 = .ok (.astore 4, 2) := by decide +kernel
theorem dX3_mark_20 : decode cX3_mark 20 = .ok (.iconst 0, 1) := by decide +kernel
theorem dX3_mark_21 : decode cX3_mark 21 = .ok (.istore 5, 2) := by decide +kernel
theorem dX3_mark_23 : decode cX3_mark 23 = .ok (.iconst 0, 1) := by decide +kernel
theorem dX3_mark_24 : decode cX3_mark 24 = .ok (.istore 6, 2) := by decide +kernel
theorem dX3_mark_26 : decode cX3_mark 26 = .ok (.iload 6, 2) := by decide +kernel
theorem dX3_mark_28 : decode cX3_mark 28 = .ok (.aload_n 0, 1) := by decide +kernel
theorem dX3_mark_29 : decode cX3_mark 29 = .ok (.getfield 25, 3) := by decide +kernel
theorem dX3_mark_32 : decode cX3_mark 32 = .ok (.if_icmp .ge 64, 3) := by decide +kernel
theorem dX3_mark_35 : decode cX3_mark 35 = .ok (.aload_n 0, 1) := by decide +kernel
theorem dX3_mark_36 : decode cX3_mark 36 = .ok (.getfield 28, 3) := by decide +kernel
theorem dX3_mark_39 : decode cX3_mark 39 = .ok (.iload 6, 2) := by decide +kernel
theorem dX3_mark_41 : decode cX3_mark 41 = .ok (.iaload, 1) := by decide +kernel
theorem dX3_mark_42 : decode cX3_mark 42 = .ok (.iload_n 2, 1) := by decide +kernel
theorem dX3_mark_43 : decode cX3_mark 43 = .ok (.invokestatic 106, 3) := by decide +kernel
theorem dX3_mark_46 : decode cX3_mark 46 = .ok (.istore 7, 2) := by decide +kernel
theorem dX3_mark_48 : decode cX3_mark 48 = .ok (.aload_n 0, 1) := by decide +kernel
theorem dX3_mark_49 : decode cX3_mark 49 = .ok (.iload 6, 2) := by decide +kernel
theorem dX3_mark_51 : decode cX3_mark 51 = .ok (.iload 7, 2) := by decide +kernel
theorem dX3_mark_53 : decode cX3_mark 53 = .ok (.iload_n 3, 1) := by decide +kernel
theorem dX3_mark_54 : decode cX3_mark 54 = .ok (.invokestatic 106, 3) := by decide +kernel
theorem dX3_mark_57 : decode cX3_mark 57 = .ok (.invokevirtual 114, 3) := by decide +kernel
theorem dX3_mark_60 : decode cX3_mark 60 = .ok (.istore 8, 2) := by decide +kernel
theorem dX3_mark_62 : decode cX3_mark 62 = .ok (.aload 4, 2) := by decide +kernel
theorem dX3_mark_64 : decode cX3_mark 64 = .ok (.iload 6, 2) := by decide +kernel
theorem dX3_mark_66 : decode cX3_mark 66 = .ok (.aload_n 0, 1) := by decide +kernel
theorem dX3_mark_67 : decode cX3_mark 67 = .ok (.getfield 132, 3) := by decide +kernel
theorem dX3_mark_70 : decode cX3_mark 70 = .ok (.iload 7, 2) := by decide +kernel
theorem dX3_mark_72 : decode cX3_mark 72 = .ok (.iload 8, 2) := by decide +kernel
theorem dX3_mark_74 : decode cX3_mark 74 = .ok (.iload_n 1, 1) := by decide +kernel
theorem dX3_mark_75 : decode cX3_mark 75 = .ok (.aload_n 0, 1) := by decide +kernel
theorem dX3_mark_76 : decode cX3_mark 76 = .ok (.getfield 117, 3) := by decide +kernel
theorem dX3_mark_79 : decode cX3_mark 79 = .ok (.invokevirtual 120, 3) := by decide +kernel
theorem dX3_mark_82 : decode cX3_mark 82 = .ok (.iload 8, 2) := by decide +kernel
theorem dX3_mark_84 : decode cX3_mark 84 = .ok (.ifCond .le 6, 3) := by decide +kernel
theorem dX3_mark_87 : decode cX3_mark 87 = .ok (.iinc 5 1, 3) := by decide +kernel
theorem dX3_mark_90 : decode cX3_mark 90 = .ok (.iinc 6 1, 3) := by decide +kernel
theorem dX3_mark_93 : decode cX3_mark 93 = .ok (.goto (-67), 3) := by decide +kernel
theorem dX3_mark_96 : decode cX3_mark 96 = .ok (.aload_n 0, 1) := by decide +kernel
theorem dX3_mark_97 : decode cX3_mark 97 = .ok (.dup, 1) := by decide +kernel
theorem dX3_mark_98 : decode cX3_mark 98 = .ok (.getfield 57, 3) := by decide +kernel
theorem dX3_mark_101 : decode cX3_mark 101 = .ok (.iconst 1, 1) := by decide +kernel
theorem dX3_mark_102 : decode cX3_mark 102 = .ok (.iadd, 1) := by decide +kernel
theorem dX3_mark_103 : decode cX3_mark 103 = .ok (.putfield 57, 3) := by decide +kernel
theorem dX3_mark_106 : decode cX3_mark 106 = .ok (.iload 5, 2) := by decide +kernel
theorem dX3_mark_108 : decode cX3_mark 108 = .ok (.ireturn, 1) := by decide +kernel
theorem dX3_point_0 : decode cX3_point 0 = .ok (.aload_n 0, 1) := by decide +kernel
theorem dX3_point_1 : decode cX3_point 1 = .ok (.iload_n 1, 1) := by decide +kernel
theorem dX3_point_2 : decode cX3_point 2 = .ok (.iload_n 2, 1) := by decide +kernel
theorem dX3_point_3 : decode cX3_point 3 = .ok (.invokevirtual 135, 3) := by decide +kernel
theorem dX3_point_6 : decode cX3_point 6 = .ok (.iload_n 3, 1) := by decide +kernel
theorem dX3_point_7 : decode cX3_point 7 = .ok (.invokestatic 129, 3) := by decide +kernel
theorem dX3_point_10 : decode cX3_point 10 = .ok (.aload_n 0, 1) := by decide +kernel
theorem dX3_point_11 : decode cX3_point 11 = .ok (.invokevirtual 78, 3) := by decide +kernel
theorem dX3_point_14 : decode cX3_point 14 = .ok (.iload_n 2, 1) := by decide +kernel
theorem dX3_point_15 : decode cX3_point 15 = .ok (.aload_n 0, 1) := by decide +kernel
theorem dX3_point_16 : decode cX3_point 16 = .ok (.getfield 18, 3) := by decide +kernel
theorem dX3_point_19 : decode cX3_point 19 = .ok (.imul, 1) := by decide +kernel
theorem dX3_point_20 : decode cX3_point 20 = .ok (.iload_n 1, 1) := by decide +kernel
theorem dX3_point_21 : decode cX3_point 21 = .ok (.iadd, 1) := by decide +kernel
theorem dX3_point_22 : decode cX3_point 22 = .ok (.invokevirtual 138, 3) := by decide +kernel
theorem dX3_point_25 : decode cX3_point 25 = .ok (.iload_n 3, 1) := by decide +kernel
theorem dX3_point_26 : decode cX3_point 26 = .ok (.invokestatic 141, 3) := by decide +kernel
theorem dX3_point_29 : decode cX3_point 29 = .ok (.ireturn, 1) := by decide +kernel
theorem dX3_alpha_0 : decode cX3_alpha 0 = .ok (.aload_n 0, 1) := by decide +kernel
theorem dX3_alpha_1 : decode cX3_alpha 1 = .ok (.iload_n 1, 1) := by decide +kernel
theorem dX3_alpha_2 : decode cX3_alpha 2 = .ok (.iload_n 2, 1) := by decide +kernel
theorem dX3_alpha_3 : decode cX3_alpha 3 = .ok (.invokevirtual 135, 3) := by decide +kernel
theorem dX3_alpha_6 : decode cX3_alpha 6 = .ok (.iload_n 2, 1) := by decide +kernel
theorem dX3_alpha_7 : decode cX3_alpha 7 = .ok (.aload_n 0, 1) := by decide +kernel
theorem dX3_alpha_8 : decode cX3_alpha 8 = .ok (.getfield 18, 3) := by decide +kernel
theorem dX3_alpha_11 : decode cX3_alpha 11 = .ok (.imul, 1) := by decide +kernel
theorem dX3_alpha_12 : decode cX3_alpha 12 = .ok (.iload_n 1, 1) := by decide +kernel
theorem dX3_alpha_13 : decode cX3_alpha 13 = .ok (.iadd, 1) := by decide +kernel
theorem dX3_alpha_14 : decode cX3_alpha 14 = .ok (.istore 4, 2) := by decide +kernel
theorem dX3_alpha_16 : decode cX3_alpha 16 = .ok (.iload_n 3, 1) := by decide +kernel
theorem dX3_alpha_17 : decode cX3_alpha 17 = .ok (.tableswitch 94 0 4 #[35, 45, 55, 65, 86], 35) := by decide +kernel
theorem dX3_alpha_52 : decode cX3_alpha 52 = .ok (.aload_n 0, 1) := by decide +kernel
theorem dX3_alpha_53 : decode cX3_alpha 53 = .ok (.invokevirtual 78, 3) := by decide +kernel
theorem dX3_alpha_56 : decode cX3_alpha 56 = .ok (.iload 4, 2) := by decide +kernel
theorem dX3_alpha_58 : decode cX3_alpha 58 = .ok (.invokevirtual 103, 3) := by decide +kernel
theorem dX3_alpha_61 : decode cX3_alpha 61 = .ok (.ireturn, 1) := by decide +kernel
theorem dX3_alpha_62 : decode cX3_alpha 62 = .ok (.aload_n 0, 1) := by decide +kernel
theorem dX3_alpha_63 : decode cX3_alpha 63 = .ok (.invokevirtual 78, 3) := by decide +kernel
theorem dX3_alpha_66 : decode cX3_alpha 66 = .ok (.iload 4, 2) := by decide +kernel
theorem dX3_alpha_68 : decode cX3_alpha 68 = .ok (.invokevirtual 99, 3) := by decide +kernel
theorem dX3_alpha_71 : decode cX3_alpha 71 = .ok (.ireturn, 1) := by decide +kernel
theorem dX3_alpha_72 : decode cX3_alpha 72 = .ok (.aload_n 0, 1) := by decide +kernel
theorem dX3_alpha_73 : decode cX3_alpha 73 = .ok (.invokevirtual 78, 3) := by decide +kernel
theorem dX3_alpha_76 : decode cX3_alpha 76 = .ok (.iload 4, 2) := by decide +kernel
theorem dX3_alpha_78 : decode cX3_alpha 78 = .ok (.invokevirtual 144, 3) := by decide +kernel
theorem dX3_alpha_81 : decode cX3_alpha 81 = .ok (.ireturn, 1) := by decide +kernel
theorem dX3_alpha_82 : decode cX3_alpha 82 = .ok (.aload_n 0, 1) := by decide +kernel
theorem dX3_alpha_83 : decode cX3_alpha 83 = .ok (.getfield 53, 3) := by decide +kernel
theorem dX3_alpha_86 : decode cX3_alpha 86 = .ok (.ifCond .eq 13, 3) := by decide +kernel
theorem dX3_alpha_89 : decode cX3_alpha 89 = .ok (.aload_n 0, 1) := by decide +kernel
theorem dX3_alpha_90 : decode cX3_alpha 90 = .ok (.getfield 32, 3) := by decide +kernel
theorem dX3_alpha_93 : decode cX3_alpha 93 = .ok (.iload 4, 2) := by decide +kernel
theorem dX3_alpha_95 : decode cX3_alpha 95 = .ok (.iaload, 1) := by decide +kernel
theorem dX3_alpha_96 : decode cX3_alpha 96 = .ok (.goto 6, 3) := by decide +kernel
theorem dX3_alpha_99 : decode cX3_alpha 99 = .ok (.sipush 255, 3) := by decide +kernel
theorem dX3_alpha_102 : decode cX3_alpha 102 = .ok (.ireturn, 1) := by decide +kernel
theorem dX3_alpha_103 : decode cX3_alpha 103 = .ok (.aload_n 0, 1) := by decide +kernel
theorem dX3_alpha_104 : decode cX3_alpha 104 = .ok (.getfield 28, 3) := by decide +kernel
theorem dX3_alpha_107 : decode cX3_alpha 107 = .ok (.iload 4, 2) := by decide +kernel
theorem dX3_alpha_109 : decode cX3_alpha 109 = .ok (.iaload, 1) := by decide +kernel
theorem dX3_alpha_110 : decode cX3_alpha 110 = .ok (.ireturn, 1) := by decide +kernel
theorem dX3_alpha_111 : decode cX3_alpha 111 = .ok (.new 60, 3) := by decide +kernel
theorem dX3_alpha_114 : decode cX3_alpha 114 = .ok (.dup, 1) := by decide +kernel
theorem dX3_alpha_115 : decode cX3_alpha 115 = .ok (.ldc 147, 2) := by decide +kernel
theorem dX3_alpha_117 : decode cX3_alpha 117 = .ok (.invokespecial 64, 3) := by decide +kernel
theorem dX3_alpha_120 : decode cX3_alpha 120 = .ok (.athrow, 1) := by decide +kernel
theorem dX3_paper_0 : decode cX3_paper 0 = .ok (.aload_n 0, 1) := by decide +kernel
theorem dX3_paper_1 : decode cX3_paper 1 = .ok (.iload_n 1, 1) := by decide +kernel
theorem dX3_paper_2 : decode cX3_paper 2 = .ok (.iload_n 2, 1) := by decide +kernel
theorem dX3_paper_3 : decode cX3_paper 3 = .ok (.invokevirtual 135, 3) := by decide +kernel
theorem dX3_paper_6 : decode cX3_paper 6 = .ok (.iload_n 3, 1) := by decide +kernel
theorem dX3_paper_7 : decode cX3_paper 7 = .ok (.invokestatic 129, 3) := by decide +kernel
theorem dX3_paper_10 : decode cX3_paper 10 = .ok (.iload_n 2, 1) := by decide +kernel
theorem dX3_paper_11 : decode cX3_paper 11 = .ok (.aload_n 0, 1) := by decide +kernel
theorem dX3_paper_12 : decode cX3_paper 12 = .ok (.getfield 18, 3) := by decide +kernel
theorem dX3_paper_15 : decode cX3_paper 15 = .ok (.imul, 1) := by decide +kernel
theorem dX3_paper_16 : decode cX3_paper 16 = .ok (.iload_n 1, 1) := by decide +kernel
theorem dX3_paper_17 : decode cX3_paper 17 = .ok (.iadd, 1) := by decide +kernel
theorem dX3_paper_18 : decode cX3_paper 18 = .ok (.istore 4, 2) := by decide +kernel
theorem dX3_paper_20 : decode cX3_paper 20 = .ok (.aload_n 0, 1) := by decide +kernel
theorem dX3_paper_21 : decode cX3_paper 21 = .ok (.invokevirtual 78, 3) := by decide +kernel
theorem dX3_paper_24 : decode cX3_paper 24 = .ok (.iload 4, 2) := by decide +kernel
theorem dX3_paper_26 : decode cX3_paper 26 = .ok (.invokevirtual 144, 3) := by decide +kernel
theorem dX3_paper_29 : decode cX3_paper 29 = .ok (.istore 5, 2) := by decide +kernel
theorem dX3_paper_31 : decode cX3_paper 31 = .ok (.aload_n 0, 1) := by decide +kernel
theorem dX3_paper_32 : decode cX3_paper 32 = .ok (.invokevirtual 78, 3) := by decide +kernel
theorem dX3_paper_35 : decode cX3_paper 35 = .ok (.iload 4, 2) := by decide +kernel
theorem dX3_paper_37 : decode cX3_paper 37 = .ok (.invokevirtual 138, 3) := by decide +kernel
theorem dX3_paper_40 : decode cX3_paper 40 = .ok (.iload_n 3, 1) := by decide +kernel
theorem dX3_paper_41 : decode cX3_paper 41 = .ok (.invokestatic 141, 3) := by decide +kernel
theorem dX3_paper_44 : decode cX3_paper 44 = .ok (.iload 5, 2) := by decide +kernel
theorem dX3_paper_46 : decode cX3_paper 46 = .ok (.invokestatic 106, 3) := by decide +kernel
theorem dX3_paper_49 : decode cX3_paper 49 = .ok (.sipush 255, 3) := by decide +kernel
theorem dX3_paper_52 : decode cX3_paper 52 = .ok (.iadd, 1) := by decide +kernel
theorem dX3_paper_53 : decode cX3_paper 53 = .ok (.iload 5, 2) := by decide +kernel
theorem dX3_paper_55 : decode cX3_paper 55 = .ok (.isub, 1) := by decide +kernel
theorem dX3_paper_56 : decode cX3_paper 56 = .ok (.ireturn, 1) := by decide +kernel
theorem dX3_separable_0 : decode cX3_separable 0 = .ok (.iload_n 1, 1) := by decide +kernel
theorem dX3_separable_1 : decode cX3_separable 1 = .ok (.bipush 11, 2) := by decide +kernel
theorem dX3_separable_3 : decode cX3_separable 3 = .ok (.invokestatic 89, 3) := by decide +kernel
theorem dX3_separable_6 : decode cX3_separable 6 = .ok (.iload_n 2, 1) := by decide +kernel
theorem dX3_separable_7 : decode cX3_separable 7 = .ok (.invokestatic 93, 3) := by decide +kernel
theorem dX3_separable_10 : decode cX3_separable 10 = .ok (.iload_n 3, 1) := by decide +kernel
theorem dX3_separable_11 : decode cX3_separable 11 = .ok (.invokestatic 93, 3) := by decide +kernel
theorem dX3_separable_14 : decode cX3_separable 14 = .ok (.iload_n 1, 1) := by decide +kernel
theorem dX3_separable_15 : decode cX3_separable 15 = .ok (.iload_n 2, 1) := by decide +kernel
theorem dX3_separable_16 : decode cX3_separable 16 = .ok (.iload_n 3, 1) := by decide +kernel
theorem dX3_separable_17 : decode cX3_separable 17 = .ok (.invokestatic 149, 3) := by decide +kernel
theorem dX3_separable_20 : decode cX3_separable 20 = .ok (.ireturn, 1) := by decide +kernel
theorem dX3_blend_0 : decode cX3_blend 0 = .ok (.iload_n 1, 1) := by decide +kernel
theorem dX3_blend_1 : decode cX3_blend 1 = .ok (.bipush 15, 2) := by decide +kernel
theorem dX3_blend_3 : decode cX3_blend 3 = .ok (.invokestatic 89, 3) := by decide +kernel
theorem dX3_blend_6 : decode cX3_blend 6 = .ok (.iload_n 2, 1) := by decide +kernel
theorem dX3_blend_7 : decode cX3_blend 7 = .ok (.invokestatic 155, 3) := by decide +kernel
theorem dX3_blend_10 : decode cX3_blend 10 = .ok (.iload_n 3, 1) := by decide +kernel
theorem dX3_blend_11 : decode cX3_blend 11 = .ok (.invokestatic 155, 3) := by decide +kernel
theorem dX3_blend_14 : decode cX3_blend 14 = .ok (.iload_n 1, 1) := by decide +kernel
theorem dX3_blend_15 : decode cX3_blend 15 = .ok (.iload_n 2, 1) := by decide +kernel
theorem dX3_blend_16 : decode cX3_blend 16 = .ok (.iload_n 3, 1) := by decide +kernel
theorem dX3_blend_17 : decode cX3_blend 17 = .ok (.invokestatic 158, 3) := by decide +kernel
theorem dX3_blend_20 : decode cX3_blend 20 = .ok (.ireturn, 1) := by decide +kernel
theorem dX3_hereIsFlat_0 : decode cX3_hereIsFlat 0 = .ok (.aload_n 0, 1) := by decide +kernel
theorem dX3_hereIsFlat_1 : decode cX3_hereIsFlat 1 = .ok (.getfield 47, 3) := by decide +kernel
theorem dX3_hereIsFlat_4 : decode cX3_hereIsFlat 4 = .ok (.aload_n 0, 1) := by decide +kernel
theorem dX3_hereIsFlat_5 : decode cX3_hereIsFlat 5 = .ok (.getfield 50, 3) := by decide +kernel
theorem dX3_hereIsFlat_8 : decode cX3_hereIsFlat 8 = .ok (.if_icmp .le 7, 3) := by decide +kernel
theorem dX3_hereIsFlat_11 : decode cX3_hereIsFlat 11 = .ok (.iconst 1, 1) := by decide +kernel
theorem dX3_hereIsFlat_12 : decode cX3_hereIsFlat 12 = .ok (.goto 4, 3) := by decide +kernel
theorem dX3_hereIsFlat_15 : decode cX3_hereIsFlat 15 = .ok (.iconst 0, 1) := by decide +kernel
theorem dX3_hereIsFlat_16 : decode cX3_hereIsFlat 16 = .ok (.ireturn, 1) := by decide +kernel
theorem dX3_here_0 : decode cX3_here 0 = .ok (.aload_n 0, 1) := by decide +kernel
theorem dX3_here_1 : decode cX3_here 1 = .ok (.getfield 37, 3) := by decide +kernel
theorem dX3_here_4 : decode cX3_here 4 = .ok (.aload_n 0, 1) := by decide +kernel
theorem dX3_here_5 : decode cX3_here 5 = .ok (.getfield 50, 3) := by decide +kernel
theorem dX3_here_8 : decode cX3_here 8 = .ok (.iconst 1, 1) := by decide +kernel
theorem dX3_here_9 : decode cX3_here 9 = .ok (.isub, 1) := by decide +kernel
theorem dX3_here_10 : decode cX3_here 10 = .ok (.aaload, 1) := by decide +kernel
theorem dX3_here_11 : decode cX3_here 11 = .ok (.areturn, 1) := by decide +kernel
theorem dX3_leave_0 : decode cX3_leave 0 = .ok (.aload_n 0, 1) := by decide +kernel
theorem dX3_leave_1 : decode cX3_leave 1 = .ok (.invokevirtual 78, 3) := by decide +kernel
theorem dX3_leave_4 : decode cX3_leave 4 = .ok (.astore_n 1, 1) := by decide +kernel
theorem dX3_leave_5 : decode cX3_leave 5 = .ok (.aload_n 0, 1) := by decide +kernel
theorem dX3_leave_6 : decode cX3_leave 6 = .ok (.dup, 1) := by decide +kernel
theorem dX3_leave_7 : decode cX3_leave 7 = .ok (.getfield 50, 3) := by decide +kernel
theorem dX3_leave_10 : decode cX3_leave 10 = .ok (.iconst 1, 1) := by decide +kernel
theorem dX3_leave_11 : decode cX3_leave 11 = .ok (.isub, 1) := by decide +kernel
theorem dX3_leave_12 : decode cX3_leave 12 = .ok (.putfield 50, 3) := by decide +kernel
theorem dX3_leave_15 : decode cX3_leave 15 = .ok (.aload_n 1, 1) := by decide +kernel
theorem dX3_leave_16 : decode cX3_leave 16 = .ok (.areturn, 1) := by decide +kernel
theorem dX3_leftByMask_0 : decode cX3_leftByMask 0 = .ok (.aload_n 0, 1) := by decide +kernel
theorem dX3_leftByMask_1 : decode cX3_leftByMask 1 = .ok (.getfield 53, 3) := by decide +kernel
theorem dX3_leftByMask_4 : decode cX3_leftByMask 4 = .ok (.ifCond .eq 16, 3) := by decide +kernel
theorem dX3_leftByMask_7 : decode cX3_leftByMask 7 = .ok (.iload_n 2, 1) := by decide +kernel
theorem dX3_leftByMask_8 : decode cX3_leftByMask 8 = .ok (.aload_n 0, 1) := by decide +kernel
theorem dX3_leftByMask_9 : decode cX3_leftByMask 9 = .ok (.getfield 32, 3) := by decide +kernel
theorem dX3_leftByMask_12 : decode cX3_leftByMask 12 = .ok (.iload_n 1, 1) := by decide +kernel
theorem dX3_leftByMask_13 : decode cX3_leftByMask 13 = .ok (.iaload, 1) := by decide +kernel
theorem dX3_leftByMask_14 : decode cX3_leftByMask 14 = .ok (.invokestatic 106, 3) := by decide +kernel
theorem dX3_leftByMask_17 : decode cX3_leftByMask 17 = .ok (.goto 4, 3) := by decide +kernel
theorem dX3_leftByMask_20 : decode cX3_leftByMask 20 = .ok (.iload_n 2, 1) := by decide +kernel
theorem dX3_leftByMask_21 : decode cX3_leftByMask 21 = .ok (.ireturn, 1) := by decide +kernel
theorem dX3_needGroup_0 : decode cX3_needGroup 0 = .ok (.aload_n 0, 1) := by decide +kernel
theorem dX3_needGroup_1 : decode cX3_needGroup 1 = .ok (.getfield 47, 3) := by decide +kernel
theorem dX3_needGroup_4 : decode cX3_needGroup 4 = .ok (.iconst 1, 1) := by decide +kernel
theorem dX3_needGroup_5 : decode cX3_needGroup 5 = .ok (.if_icmp .gt 13, 3) := by decide +kernel
theorem dX3_needGroup_8 : decode cX3_needGroup 8 = .ok (.new 161, 3) := by decide +kernel
theorem dX3_needGroup_11 : decode cX3_needGroup 11 = .ok (.dup, 1) := by decide +kernel
theorem dX3_needGroup_12 : decode cX3_needGroup 12 = .ok (.ldc 163, 2) := by decide +kernel
theorem dX3_needGroup_14 : decode cX3_needGroup 14 = .ok (.invokespecial 165, 3) := by decide +kernel
theorem dX3_needGroup_17 : decode cX3_needGroup 17 = .ok (.athrow, 1) := by decide +kernel
theorem dX3_needGroup_18 : decode cX3_needGroup 18 = .ok (.return_, 1) := by decide +kernel
theorem dX3_needPoint_0 : decode cX3_needPoint 0 = .ok (.iload_n 1, 1) := by decide +kernel
theorem dX3_needPoint_1 : decode cX3_needPoint 1 = .ok (.ifCond .lt 23, 3) := by decide +kernel
theorem dX3_needPoint_4 : decode cX3_needPoint 4 = .ok (.iload_n 1, 1) := by decide +kernel
theorem dX3_needPoint_5 : decode cX3_needPoint 5 = .ok (.aload_n 0, 1) := by decide +kernel
theorem dX3_needPoint_6 : decode cX3_needPoint 6 = .ok (.getfield 18, 3) := by decide +kernel
theorem dX3_needPoint_9 : decode cX3_needPoint 9 = .ok (.if_icmp .ge 15, 3) := by decide +kernel
theorem dX3_needPoint_12 : decode cX3_needPoint 12 = .ok (.iload_n 2, 1) := by decide +kernel
theorem dX3_needPoint_13 : decode cX3_needPoint 13 = .ok (.ifCond .lt 11, 3) := by decide +kernel
theorem dX3_needPoint_16 : decode cX3_needPoint 16 = .ok (.iload_n 2, 1) := by decide +kernel
theorem dX3_needPoint_17 : decode cX3_needPoint 17 = .ok (.aload_n 0, 1) := by decide +kernel
theorem dX3_needPoint_18 : decode cX3_needPoint 18 = .ok (.getfield 22, 3) := by decide +kernel
theorem dX3_needPoint_21 : decode cX3_needPoint 21 = .ok (.if_icmp .lt 13, 3) := by decide +kernel
theorem dX3_needPoint_24 : decode cX3_needPoint 24 = .ok (.new 166, 3) := by decide +kernel
theorem dX3_needPoint_27 : decode cX3_needPoint 27 = .ok (.dup, 1) := by decide +kernel
theorem dX3_needPoint_28 : decode cX3_needPoint 28 = .ok (.ldc 168, 2) := by decide +kernel
theorem dX3_needPoint_30 : decode cX3_needPoint 30 = .ok (.invokespecial 170, 3) := by decide +kernel
theorem dX3_needPoint_33 : decode cX3_needPoint 33 = .ok (.athrow, 1) := by decide +kernel
theorem dX3_needPoint_34 : decode cX3_needPoint 34 = .ok (.return_, 1) := by decide +kernel
theorem dX3_needBand_0 : decode cX3_needBand 0 = .ok (.iload_n 0, 1) := by decide +kernel
theorem dX3_needBand_1 : decode cX3_needBand 1 = .ok (.ifCond .lt 8, 3) := by decide +kernel
theorem dX3_needBand_4 : decode cX3_needBand 4 = .ok (.iload_n 0, 1) := by decide +kernel
theorem dX3_needBand_5 : decode cX3_needBand 5 = .ok (.iconst 3, 1) := by decide +kernel
theorem dX3_needBand_6 : decode cX3_needBand 6 = .ok (.if_icmp .lt 13, 3) := by decide +kernel
theorem dX3_needBand_9 : decode cX3_needBand 9 = .ok (.new 166, 3) := by decide +kernel
theorem dX3_needBand_12 : decode cX3_needBand 12 = .ok (.dup, 1) := by decide +kernel
theorem dX3_needBand_13 : decode cX3_needBand 13 = .ok (.ldc 171, 2) := by decide +kernel
theorem dX3_needBand_15 : decode cX3_needBand 15 = .ok (.invokespecial 170, 3) := by decide +kernel
theorem dX3_needBand_18 : decode cX3_needBand 18 = .ok (.athrow, 1) := by decide +kernel
theorem dX3_needBand_19 : decode cX3_needBand 19 = .ok (.return_, 1) := by decide +kernel
theorem dX3_needByte_0 : decode cX3_needByte 0 = .ok (.iload_n 0, 1) := by decide +kernel
theorem dX3_needByte_1 : decode cX3_needByte 1 = .ok (.ifCond .lt 10, 3) := by decide +kernel
theorem dX3_needByte_4 : decode cX3_needByte 4 = .ok (.iload_n 0, 1) := by decide +kernel
theorem dX3_needByte_5 : decode cX3_needByte 5 = .ok (.sipush 255, 3) := by decide +kernel
theorem dX3_needByte_8 : decode cX3_needByte 8 = .ok (.if_icmp .le 13, 3) := by decide +kernel
theorem dX3_needByte_11 : decode cX3_needByte 11 = .ok (.new 60, 3) := by decide +kernel
theorem dX3_needByte_14 : decode cX3_needByte 14 = .ok (.dup, 1) := by decide +kernel
theorem dX3_needByte_15 : decode cX3_needByte 15 = .ok (.ldc 173, 2) := by decide +kernel
theorem dX3_needByte_17 : decode cX3_needByte 17 = .ok (.invokespecial 64, 3) := by decide +kernel
theorem dX3_needByte_20 : decode cX3_needByte 20 = .ok (.athrow, 1) := by decide +kernel
theorem dX3_needByte_21 : decode cX3_needByte 21 = .ok (.return_, 1) := by decide +kernel
theorem dX3_needColour_0 : decode cX3_needColour 0 = .ok (.iload_n 0, 1) := by decide +kernel
theorem dX3_needColour_1 : decode cX3_needColour 1 = .ok (.ifCond .lt 9, 3) := by decide +kernel
theorem dX3_needColour_4 : decode cX3_needColour 4 = .ok (.iload_n 0, 1) := by decide +kernel
theorem dX3_needColour_5 : decode cX3_needColour 5 = .ok (.ldc 175, 2) := by decide +kernel
theorem dX3_needColour_7 : decode cX3_needColour 7 = .ok (.if_icmp .le 13, 3) := by decide +kernel
theorem dX3_needColour_10 : decode cX3_needColour 10 = .ok (.new 60, 3) := by decide +kernel
theorem dX3_needColour_13 : decode cX3_needColour 13 = .ok (.dup, 1) := by decide +kernel
theorem dX3_needColour_14 : decode cX3_needColour 14 = .ok (.ldc 176, 2) := by decide +kernel
theorem dX3_needColour_16 : decode cX3_needColour 16 = .ok (.invokespecial 64, 3) := by decide +kernel
theorem dX3_needColour_19 : decode cX3_needColour 19 = .ok (.athrow, 1) := by decide +kernel
theorem dX3_needColour_20 : decode cX3_needColour 20 = .ok (.return_, 1) := by decide +kernel
theorem dX3_needMode_0 : decode cX3_needMode 0 = .ok (.iload_n 0, 1) := by decide +kernel
theorem dX3_needMode_1 : decode cX3_needMode 1 = .ok (.ifCond .lt 8, 3) := by decide +kernel
theorem dX3_needMode_4 : decode cX3_needMode 4 = .ok (.iload_n 0, 1) := by decide +kernel
theorem dX3_needMode_5 : decode cX3_needMode 5 = .ok (.iload_n 1, 1) := by decide +kernel
theorem dX3_needMode_6 : decode cX3_needMode 6 = .ok (.if_icmp .le 13, 3) := by decide +kernel
theorem dX3_needMode_9 : decode cX3_needMode 9 = .ok (.new 60, 3) := by decide +kernel
theorem dX3_needMode_12 : decode cX3_needMode 12 = .ok (.dup, 1) := by decide +kernel
theorem dX3_needMode_13 : decode cX3_needMode 13 = .ok (.ldc 178, 2) := by decide +kernel
theorem dX3_needMode_15 : decode cX3_needMode 15 = .ok (.invokespecial 64, 3) := by decide +kernel
theorem dX3_needMode_18 : decode cX3_needMode 18 = .ok (.athrow, 1) := by decide +kernel
theorem dX3_needMode_19 : decode cX3_needMode 19 = .ok (.return_, 1) := by decide +kernel
theorem dJ9_floorDiv_7cf53_0 : decode cJ9_floorDiv_7cf53 0 = .ok (.iload_n 0, 1) := by decide +kernel
theorem dJ9_floorDiv_7cf53_1 : decode cJ9_floorDiv_7cf53 1 = .ok (.iload_n 1, 1) := by decide +kernel
theorem dJ9_floorDiv_7cf53_2 : decode cJ9_floorDiv_7cf53 2 = .ok (.idiv, 1) := by decide +kernel
theorem dJ9_floorDiv_7cf53_3 : decode cJ9_floorDiv_7cf53 3 = .ok (.istore_n 2, 1) := by decide +kernel
theorem dJ9_floorDiv_7cf53_4 : decode cJ9_floorDiv_7cf53 4 = .ok (.iload_n 0, 1) := by decide +kernel
theorem dJ9_floorDiv_7cf53_5 : decode cJ9_floorDiv_7cf53 5 = .ok (.iload_n 1, 1) := by decide +kernel
theorem dJ9_floorDiv_7cf53_6 : decode cJ9_floorDiv_7cf53 6 = .ok (.ixor, 1) := by decide +kernel
theorem dJ9_floorDiv_7cf53_7 : decode cJ9_floorDiv_7cf53 7 = .ok (.ifCond .ge 14, 3) := by decide +kernel
theorem dJ9_floorDiv_7cf53_10 : decode cJ9_floorDiv_7cf53 10 = .ok (.iload_n 2, 1) := by decide +kernel
theorem dJ9_floorDiv_7cf53_11 : decode cJ9_floorDiv_7cf53 11 = .ok (.iload_n 1, 1) := by decide +kernel
theorem dJ9_floorDiv_7cf53_12 : decode cJ9_floorDiv_7cf53 12 = .ok (.imul, 1) := by decide +kernel
theorem dJ9_floorDiv_7cf53_13 : decode cJ9_floorDiv_7cf53 13 = .ok (.iload_n 0, 1) := by decide +kernel
theorem dJ9_floorDiv_7cf53_14 : decode cJ9_floorDiv_7cf53 14 = .ok (.if_icmp .eq 7, 3) := by decide +kernel
theorem dJ9_floorDiv_7cf53_17 : decode cJ9_floorDiv_7cf53 17 = .ok (.iload_n 2, 1) := by decide +kernel
theorem dJ9_floorDiv_7cf53_18 : decode cJ9_floorDiv_7cf53 18 = .ok (.iconst 1, 1) := by decide +kernel
theorem dJ9_floorDiv_7cf53_19 : decode cJ9_floorDiv_7cf53 19 = .ok (.isub, 1) := by decide +kernel
theorem dJ9_floorDiv_7cf53_20 : decode cJ9_floorDiv_7cf53 20 = .ok (.ireturn, 1) := by decide +kernel
theorem dJ9_floorDiv_7cf53_21 : decode cJ9_floorDiv_7cf53 21 = .ok (.iload_n 2, 1) := by decide +kernel
theorem dJ9_floorDiv_7cf53_22 : decode cJ9_floorDiv_7cf53 22 = .ok (.ireturn, 1) := by decide +kernel
theorem dJ9_max_7cf53_0 : decode cJ9_max_7cf53 0 = .ok (.iload_n 0, 1) := by decide +kernel
theorem dJ9_max_7cf53_1 : decode cJ9_max_7cf53 1 = .ok (.iload_n 1, 1) := by decide +kernel
theorem dJ9_max_7cf53_2 : decode cJ9_max_7cf53 2 = .ok (.if_icmp .lt 7, 3) := by decide +kernel
theorem dJ9_max_7cf53_5 : decode cJ9_max_7cf53 5 = .ok (.iload_n 0, 1) := by decide +kernel
theorem dJ9_max_7cf53_6 : decode cJ9_max_7cf53 6 = .ok (.goto 4, 3) := by decide +kernel
theorem dJ9_max_7cf53_9 : decode cJ9_max_7cf53 9 = .ok (.iload_n 1, 1) := by decide +kernel
theorem dJ9_max_7cf53_10 : decode cJ9_max_7cf53 10 = .ok (.ireturn, 1) := by decide +kernel
theorem dJ9_min_7cf53_0 : decode cJ9_min_7cf53 0 = .ok (.iload_n 0, 1) := by decide +kernel
theorem dJ9_min_7cf53_1 : decode cJ9_min_7cf53 1 = .ok (.iload_n 1, 1) := by decide +kernel
theorem dJ9_min_7cf53_2 : decode cJ9_min_7cf53 2 = .ok (.if_icmp .gt 7, 3) := by decide +kernel
theorem dJ9_min_7cf53_5 : decode cJ9_min_7cf53 5 = .ok (.iload_n 0, 1) := by decide +kernel
theorem dJ9_min_7cf53_6 : decode cJ9_min_7cf53 6 = .ok (.goto 4, 3) := by decide +kernel
theorem dJ9_min_7cf53_9 : decode cJ9_min_7cf53 9 = .ok (.iload_n 1, 1) := by decide +kernel
theorem dJ9_min_7cf53_10 : decode cJ9_min_7cf53 10 = .ok (.ireturn, 1) := by decide +kernel
end
section
theorem dX4_init_0 : decode cX4_init 0 = .ok (.aload_n 0, 1) := by decide +kernel
theorem dX4_init_1 : decode cX4_init 1 = .ok (.invokespecial 1, 3) := by decide +kernel
theorem dX4_init_4 : decode cX4_init 4 = .ok (.aload_n 0, 1) := by decide +kernel
theorem dX4_init_5 : decode cX4_init 5 = .ok (.bipush 6, 2) := by decide +kernel
theorem dX4_init_7 : decode cX4_init 7 = .ok (.putfield 7, 3) := by decide +kernel
theorem dX4_init_10 : decode cX4_init 10 = .ok (.aload_n 0, 1) := by decide +kernel
theorem dX4_init_11 : decode cX4_init 11 = .ok (.iconst 1, 1) := by decide +kernel
theorem dX4_init_12 : decode cX4_init 12 = .ok (.putfield 13, 3) := by decide +kernel
theorem dX4_init_15 : decode cX4_init 15 = .ok (.aload_n 0, 1) := by decide +kernel
theorem dX4_init_16 : decode cX4_init 16 = .ok (.bipush 41, 2) := by decide +kernel
theorem dX4_init_18 : decode cX4_init 18 = .ok (.newarray .int, 2) := by decide +kernel
theorem dX4_init_20 : decode cX4_init 20 = .ok (.putfield 16, 3) := by decide +kernel
theorem dX4_init_23 : decode cX4_init 23 = .ok (.aload_n 0, 1) := by decide +kernel
theorem dX4_init_24 : decode cX4_init 24 = .ok (.iconst 1, 1) := by decide +kernel
theorem dX4_init_25 : decode cX4_init 25 = .ok (.putfield 20, 3) := by decide +kernel
theorem dX4_init_28 : decode cX4_init 28 = .ok (.aload_n 0, 1) := by decide +kernel
theorem dX4_init_29 : decode cX4_init 29 = .ok (.bipush 8, 2) := by decide +kernel
theorem dX4_init_31 : decode cX4_init 31 = .ok (.newarray .boolean, 2) := by decide +kernel
theorem dX4_init_33 : decode cX4_init 33 = .ok (.putfield 23, 3) := by decide +kernel
theorem dX4_init_36 : decode cX4_init 36 = .ok (.aload_n 0, 1) := by decide +kernel
theorem dX4_init_37 : decode cX4_init 37 = .ok (.sipush 3456, 3) := by decide +kernel
theorem dX4_init_40 : decode cX4_init 40 = .ok (.newarray .int, 2) := by decide +kernel
theorem dX4_init_42 : decode cX4_init 42 = .ok (.putfield 27, 3) := by decide +kernel
theorem dX4_init_45 : decode cX4_init 45 = .ok (.aload_n 0, 1) := by decide +kernel
theorem dX4_init_46 : decode cX4_init 46 = .ok (.sipush 1152, 3) := by decide +kernel
theorem dX4_init_49 : decode cX4_init 49 = .ok (.newarray .int, 2) := by decide +kernel
theorem dX4_init_51 : decode cX4_init 51 = .ok (.putfield 30, 3) := by decide +kernel
theorem dX4_init_54 : decode cX4_init 54 = .ok (.aload_n 0, 1) := by decide +kernel
theorem dX4_init_55 : decode cX4_init 55 = .ok (.sipush 3456, 3) := by decide +kernel
theorem dX4_init_58 : decode cX4_init 58 = .ok (.newarray .int, 2) := by decide +kernel
theorem dX4_init_60 : decode cX4_init 60 = .ok (.putfield 33, 3) := by decide +kernel
theorem dX4_init_63 : decode cX4_init 63 = .ok (.aload_n 0, 1) := by decide +kernel
theorem dX4_init_64 : decode cX4_init 64 = .ok (.sipush 1152, 3) := by decide +kernel
theorem dX4_init_67 : decode cX4_init 67 = .ok (.newarray .int, 2) := by decide +kernel
theorem dX4_init_69 : decode cX4_init 69 = .ok (.putfield 36, 3) := by decide +kernel
theorem dX4_init_72 : decode cX4_init 72 = .ok (.aload_n 0, 1) := by decide +kernel
theorem dX4_init_73 : decode cX4_init 73 = .ok (.sipush 1152, 3) := by decide +kernel
theorem dX4_init_76 : decode cX4_init 76 = .ok (.newarray .int, 2) := by decide +kernel
theorem dX4_init_78 : decode cX4_init 78 = .ok (.putfield 39, 3) := by decide +kernel
theorem dX4_init_81 : decode cX4_init 81 = .ok (.aload_n 0, 1) := by decide +kernel
theorem dX4_init_82 : decode cX4_init 82 = .ok (.sipush 144, 3) := by decide +kernel
theorem dX4_init_85 : decode cX4_init 85 = .ok (.newarray .int, 2) := by decide +kernel
theorem dX4_init_87 : decode cX4_init 87 = .ok (.putfield 42, 3) := by decide +kernel
theorem dX4_init_90 : decode cX4_init 90 = .ok (.aload_n 0, 1) := by decide +kernel
theorem dX4_init_91 : decode cX4_init 91 = .ok (.sipush 144, 3) := by decide +kernel
theorem dX4_init_94 : decode cX4_init 94 = .ok (.newarray .int, 2) := by decide +kernel
theorem dX4_init_96 : decode cX4_init 96 = .ok (.putfield 45, 3) := by decide +kernel
theorem dX4_init_99 : decode cX4_init 99 = .ok (.aload_n 0, 1) := by decide +kernel
theorem dX4_init_100 : decode cX4_init 100 = .ok (.iconst 3, 1) := by decide +kernel
theorem dX4_init_101 : decode cX4_init 101 = .ok (.newarray .int, 2) := by decide +kernel
theorem dX4_init_103 : decode cX4_init 103 = .ok (.putfield 48, 3) := by decide +kernel
theorem dX4_init_106 : decode cX4_init 106 = .ok (.aload_n 0, 1) := by decide +kernel
theorem dX4_init_107 : decode cX4_init 107 = .ok (.iconst 3, 1) := by decide +kernel
theorem dX4_init_108 : decode cX4_init 108 = .ok (.newarray .boolean, 2) := by decide +kernel
theorem dX4_init_110 : decode cX4_init 110 = .ok (.putfield 51, 3) := by decide +kernel
theorem dX4_init_113 : decode cX4_init 113 = .ok (.aload_n 0, 1) := by decide +kernel
theorem dX4_init_114 : decode cX4_init 114 = .ok (.iconst 3, 1) := by decide +kernel
theorem dX4_init_115 : decode cX4_init 115 = .ok (.newarray .int, 2) := by decide +kernel
theorem dX4_init_117 : decode cX4_init 117 = .ok (.putfield 54, 3) := by decide +kernel
theorem dX4_init_120 : decode cX4_init 120 = .ok (.aload_n 0, 1) := by decide +kernel
theorem dX4_init_121 : decode cX4_init 121 = .ok (.iconst 3, 1) := by decide +kernel
theorem dX4_init_122 : decode cX4_init 122 = .ok (.newarray .int, 2) := by decide +kernel
theorem dX4_init_124 : decode cX4_init 124 = .ok (.putfield 57, 3) := by decide +kernel
theorem dX4_init_127 : decode cX4_init 127 = .ok (.aload_n 0, 1) := by decide +kernel
theorem dX4_init_128 : decode cX4_init 128 = .ok (.iconst 3, 1) := by decide +kernel
theorem dX4_init_129 : decode cX4_init 129 = .ok (.newarray .int, 2) := by decide +kernel
theorem dX4_init_131 : decode cX4_init 131 = .ok (.putfield 60, 3) := by decide +kernel
theorem dX4_init_134 : decode cX4_init 134 = .ok (.aload_n 0, 1) := by decide +kernel
theorem dX4_init_135 : decode cX4_init 135 = .ok (.iconst 3, 1) := by decide +kernel
theorem dX4_init_136 : decode cX4_init 136 = .ok (.newarray .int, 2) := by decide +kernel
theorem dX4_init_138 : decode cX4_init 138 = .ok (.putfield 63, 3) := by decide +kernel
theorem dX4_init_141 : decode cX4_init 141 = .ok (.aload_n 0, 1) := by decide +kernel
theorem dX4_init_142 : decode cX4_init 142 = .ok (.iload_n 1, 1) := by decide +kernel
theorem dX4_init_143 : decode cX4_init 143 = .ok (.iconst 1, 1) := by decide +kernel
theorem dX4_init_144 : decode cX4_init 144 = .ok (.if_icmp .ge 7, 3) := by decide +kernel
theorem dX4_init_147 : decode cX4_init 147 = .ok (.iconst 1, 1) := by decide +kernel
theorem dX4_init_148 : decode cX4_init 148 = .ok (.goto 15, 3) := by decide +kernel
theorem dX4_init_151 : decode cX4_init 151 = .ok (.iload_n 1, 1) := by decide +kernel
theorem dX4_init_152 : decode cX4_init 152 = .ok (.bipush 12, 2) := by decide +kernel
theorem dX4_init_154 : decode cX4_init 154 = .ok (.if_icmp .le 8, 3) := by decide +kernel
theorem dX4_init_157 : decode cX4_init 157 = .ok (.bipush 12, 2) := by decide +kernel
theorem dX4_init_159 : decode cX4_init 159 = .ok (.goto 4, 3) := by decide +kernel
theorem dX4_init_162 : decode cX4_init 162 = .ok (.iload_n 1, 1) := by decide +kernel
theorem dX4_init_163 : decode cX4_init 163 = .ok (.putfield 66, 3) := by decide +kernel
theorem dX4_init_166 : decode cX4_init 166 = .ok (.aload_n 0, 1) := by decide +kernel
theorem dX4_init_167 : decode cX4_init 167 = .ok (.iload_n 2, 1) := by decide +kernel
theorem dX4_init_168 : decode cX4_init 168 = .ok (.iconst 1, 1) := by decide +kernel
theorem dX4_init_169 : decode cX4_init 169 = .ok (.if_icmp .ge 7, 3) := by decide +kernel
theorem dX4_init_172 : decode cX4_init 172 = .ok (.iconst 1, 1) := by decide +kernel
theorem dX4_init_173 : decode cX4_init 173 = .ok (.goto 15, 3) := by decide +kernel
theorem dX4_init_176 : decode cX4_init 176 = .ok (.iload_n 2, 1) := by decide +kernel
theorem dX4_init_177 : decode cX4_init 177 = .ok (.bipush 12, 2) := by decide +kernel
theorem dX4_init_179 : decode cX4_init 179 = .ok (.if_icmp .le 8, 3) := by decide +kernel
theorem dX4_init_182 : decode cX4_init 182 = .ok (.bipush 12, 2) := by decide +kernel
theorem dX4_init_184 : decode cX4_init 184 = .ok (.goto 4, 3) := by decide +kernel
theorem dX4_init_187 : decode cX4_init 187 = .ok (.iload_n 2, 1) := by decide +kernel
theorem dX4_init_188 : decode cX4_init 188 = .ok (.putfield 69, 3) := by decide +kernel
theorem dX4_init_191 : decode cX4_init 191 = .ok (.iconst 0, 1) := by decide +kernel
theorem dX4_init_192 : decode cX4_init 192 = .ok (.istore_n 3, 1) := by decide +kernel
theorem dX4_init_193 : decode cX4_init 193 = .ok (.iload_n 3, 1) := by decide +kernel
theorem dX4_init_194 : decode cX4_init 194 = .ok (.sipush 144, 3) := by decide +kernel
theorem dX4_init_197 : decode cX4_init 197 = .ok (.if_icmp .ge 18, 3) := by decide +kernel
theorem dX4_init_200 : decode cX4_init 200 = .ok (.aload_n 0, 1) := by decide +kernel
theorem dX4_init_201 : decode cX4_init 201 = .ok (.getfield 45, 3) := by decide +kernel
theorem dX4_init_204 : decode cX4_init 204 = .ok (.iload_n 3, 1) := by decide +kernel
theorem dX4_init_205 : decode cX4_init 205 = .ok (.sipush 255, 3) := by decide +kernel
theorem dX4_init_208 : decode cX4_init 208 = .ok (.iastore, 1) := by decide +kernel
theorem dX4_init_209 : decode cX4_init 209 = .ok (.iinc 3 1, 3) := by decide +kernel
theorem dX4_init_212 : decode cX4_init 212 = .ok (.goto (-19), 3) := by decide +kernel
theorem dX4_init_215 : decode cX4_init 215 = .ok (.return_, 1) := by decide +kernel
theorem dX4_thrown_0 : decode cX4_thrown 0 = .ok (.aload_n 0, 1) := by decide +kernel
theorem dX4_thrown_1 : decode cX4_thrown 1 = .ok (.getfield 72, 3) := by decide +kernel
theorem dX4_thrown_4 : decode cX4_thrown 4 = .ok (.ireturn, 1) := by decide +kernel
theorem dX4_mul_0 : decode cX4_mul 0 = .ok (.iload_n 0, 1) := by decide +kernel
theorem dX4_mul_1 : decode cX4_mul 1 = .ok (.iload_n 1, 1) := by decide +kernel
theorem dX4_mul_2 : decode cX4_mul 2 = .ok (.imul, 1) := by decide +kernel
theorem dX4_mul_3 : decode cX4_mul 3 = .ok (.bipush 127, 2) := by decide +kernel
theorem dX4_mul_5 : decode cX4_mul 5 = .ok (.iadd, 1) := by decide +kernel
theorem dX4_mul_6 : decode cX4_mul 6 = .ok (.sipush 255, 3) := by decide +kernel
theorem dX4_mul_9 : decode cX4_mul 9 = .ok (.idiv, 1) := by decide +kernel
theorem dX4_mul_10 : decode cX4_mul 10 = .ok (.ireturn, 1) := by decide +kernel
theorem dX4_isByte_0 : decode cX4_isByte 0 = .ok (.iload_n 0, 1) := by decide +kernel
theorem dX4_isByte_1 : decode cX4_isByte 1 = .ok (.ifCond .lt 14, 3) := by decide +kernel
theorem dX4_isByte_4 : decode cX4_isByte 4 = .ok (.iload_n 0, 1) := by decide +kernel
theorem dX4_isByte_5 : decode cX4_isByte 5 = .ok (.sipush 255, 3) := by decide +kernel
theorem dX4_isByte_8 : decode cX4_isByte 8 = .ok (.if_icmp .gt 7, 3) := by decide +kernel
theorem dX4_isByte_11 : decode cX4_isByte 11 = .ok (.iconst 1, 1) := by decide +kernel
theorem dX4_isByte_12 : decode cX4_isByte 12 = .ok (.goto 4, 3) := by decide +kernel
theorem dX4_isByte_15 : decode cX4_isByte 15 = .ok (.iconst 0, 1) := by decide +kernel
theorem dX4_isByte_16 : decode cX4_isByte 16 = .ok (.ireturn, 1) := by decide +kernel
theorem dX4_isPoint_0 : decode cX4_isPoint 0 = .ok (.iload_n 1, 1) := by decide +kernel
theorem dX4_isPoint_1 : decode cX4_isPoint 1 = .ok (.ifCond .lt 27, 3) := by decide +kernel
theorem dX4_isPoint_4 : decode cX4_isPoint 4 = .ok (.iload_n 1, 1) := by decide +kernel
theorem dX4_isPoint_5 : decode cX4_isPoint 5 = .ok (.aload_n 0, 1) := by decide +kernel
theorem dX4_isPoint_6 : decode cX4_isPoint 6 = .ok (.getfield 66, 3) := by decide +kernel
theorem dX4_isPoint_9 : decode cX4_isPoint 9 = .ok (.if_icmp .ge 19, 3) := by decide +kernel
theorem dX4_isPoint_12 : decode cX4_isPoint 12 = .ok (.iload_n 2, 1) := by decide +kernel
theorem dX4_isPoint_13 : decode cX4_isPoint 13 = .ok (.ifCond .lt 15, 3) := by decide +kernel
theorem dX4_isPoint_16 : decode cX4_isPoint 16 = .ok (.iload_n 2, 1) := by decide +kernel
theorem dX4_isPoint_17 : decode cX4_isPoint 17 = .ok (.aload_n 0, 1) := by decide +kernel
theorem dX4_isPoint_18 : decode cX4_isPoint 18 = .ok (.getfield 69, 3) := by decide +kernel
theorem dX4_isPoint_21 : decode cX4_isPoint 21 = .ok (.if_icmp .ge 7, 3) := by decide +kernel
theorem dX4_isPoint_24 : decode cX4_isPoint 24 = .ok (.iconst 1, 1) := by decide +kernel
theorem dX4_isPoint_25 : decode cX4_isPoint 25 = .ok (.goto 4, 3) := by decide +kernel
theorem dX4_isPoint_28 : decode cX4_isPoint 28 = .ok (.iconst 0, 1) := by decide +kernel
theorem dX4_isPoint_29 : decode cX4_isPoint 29 = .ok (.ireturn, 1) := by decide +kernel
theorem dX4_isBand_0 : decode cX4_isBand 0 = .ok (.iload_n 0, 1) := by decide +kernel
theorem dX4_isBand_1 : decode cX4_isBand 1 = .ok (.ifCond .lt 12, 3) := by decide +kernel
theorem dX4_isBand_4 : decode cX4_isBand 4 = .ok (.iload_n 0, 1) := by decide +kernel
theorem dX4_isBand_5 : decode cX4_isBand 5 = .ok (.iconst 3, 1) := by decide +kernel
theorem dX4_isBand_6 : decode cX4_isBand 6 = .ok (.if_icmp .ge 7, 3) := by decide +kernel
theorem dX4_isBand_9 : decode cX4_isBand 9 = .ok (.iconst 1, 1) := by decide +kernel
theorem dX4_isBand_10 : decode cX4_isBand 10 = .ok (.goto 4, 3) := by decide +kernel
theorem dX4_isBand_13 : decode cX4_isBand 13 = .ok (.iconst 0, 1) := by decide +kernel
theorem dX4_isBand_14 : decode cX4_isBand 14 = .ok (.ireturn, 1) := by decide +kernel
theorem dX4_dodge_0 : decode cX4_dodge 0 = .ok (.iload_n 0, 1) := by decide +kernel
theorem dX4_dodge_1 : decode cX4_dodge 1 = .ok (.ifCond .ne 5, 3) := by decide +kernel
theorem dX4_dodge_4 : decode cX4_dodge 4 = .ok (.iconst 0, 1) := by decide +kernel
theorem dX4_dodge_5 : decode cX4_dodge 5 = .ok (.ireturn, 1) := by decide +kernel
theorem dX4_dodge_6 : decode cX4_dodge 6 = .ok (.iload_n 0, 1) := by decide +kernel
theorem dX4_dodge_7 : decode cX4_dodge 7 = .ok (.iload_n 1, 1) := by decide +kernel
theorem dX4_dodge_8 : decode cX4_dodge 8 = .ok (.iadd, 1) := by decide +kernel
theorem dX4_dodge_9 : decode cX4_dodge 9 = .ok (.sipush 255, 3) := by decide +kernel
theorem dX4_dodge_12 : decode cX4_dodge 12 = .ok (.if_icmp .lt 9, 3) := by decide +kernel
theorem dX4_dodge_15 : decode cX4_dodge 15 = .ok (.sipush 255, 3) := by decide +kernel
theorem dX4_dodge_18 : decode cX4_dodge 18 = .ok (.goto 22, 3) := by decide +kernel
theorem dX4_dodge_21 : decode cX4_dodge 21 = .ok (.sipush 255, 3) := by decide +kernel
theorem dX4_dodge_24 : decode cX4_dodge 24 = .ok (.iload_n 0, 1) := by decide +kernel
theorem dX4_dodge_25 : decode cX4_dodge 25 = .ok (.imul, 1) := by decide +kernel
theorem dX4_dodge_26 : decode cX4_dodge 26 = .ok (.sipush 255, 3) := by decide +kernel
theorem dX4_dodge_29 : decode cX4_dodge 29 = .ok (.iload_n 1, 1) := by decide +kernel
theorem dX4_dodge_30 : decode cX4_dodge 30 = .ok (.isub, 1) := by decide +kernel
theorem dX4_dodge_31 : decode cX4_dodge 31 = .ok (.iconst 2, 1) := by decide +kernel
theorem dX4_dodge_32 : decode cX4_dodge 32 = .ok (.idiv, 1) := by decide +kernel
theorem dX4_dodge_33 : decode cX4_dodge 33 = .ok (.iadd, 1) := by decide +kernel
theorem dX4_dodge_34 : decode cX4_dodge 34 = .ok (.sipush 255, 3) := by decide +kernel
theorem dX4_dodge_37 : decode cX4_dodge 37 = .ok (.iload_n 1, 1) := by decide +kernel
theorem dX4_dodge_38 : decode cX4_dodge 38 = .ok (.isub, 1) := by decide +kernel
theorem dX4_dodge_39 : decode cX4_dodge 39 = .ok (.idiv, 1) := by decide +kernel
theorem dX4_dodge_40 : decode cX4_dodge 40 = .ok (.ireturn, 1) := by decide +kernel
theorem dX4_burn_0 : decode cX4_burn 0 = .ok (.iload_n 0, 1) := by decide +kernel
theorem dX4_burn_1 : decode cX4_burn 1 = .ok (.sipush 255, 3) := by decide +kernel
theorem dX4_burn_4 : decode cX4_burn 4 = .ok (.if_icmp .ne 7, 3) := by decide +kernel
theorem dX4_burn_7 : decode cX4_burn 7 = .ok (.sipush 255, 3) := by decide +kernel
theorem dX4_burn_10 : decode cX4_burn 10 = .ok (.ireturn, 1) := by decide +kernel
theorem dX4_burn_11 : decode cX4_burn 11 = .ok (.iload_n 0, 1) := by decide +kernel
theorem dX4_burn_12 : decode cX4_burn 12 = .ok (.iload_n 1, 1) := by decide +kernel
theorem dX4_burn_13 : decode cX4_burn 13 = .ok (.iadd, 1) := by decide +kernel
theorem dX4_burn_14 : decode cX4_burn 14 = .ok (.sipush 255, 3) := by decide +kernel
theorem dX4_burn_17 : decode cX4_burn 17 = .ok (.if_icmp .gt 7, 3) := by decide +kernel
theorem dX4_burn_20 : decode cX4_burn 20 = .ok (.iconst 0, 1) := by decide +kernel
theorem dX4_burn_21 : decode cX4_burn 21 = .ok (.goto 22, 3) := by decide +kernel
theorem dX4_burn_24 : decode cX4_burn 24 = .ok (.sipush 255, 3) := by decide +kernel
theorem dX4_burn_27 : decode cX4_burn 27 = .ok (.sipush 255, 3) := by decide +kernel
theorem dX4_burn_30 : decode cX4_burn 30 = .ok (.sipush 255, 3) := by decide +kernel
theorem dX4_burn_33 : decode cX4_burn 33 = .ok (.iload_n 0, 1) := by decide +kernel
theorem dX4_burn_34 : decode cX4_burn 34 = .ok (.isub, 1) := by decide +kernel
theorem dX4_burn_35 : decode cX4_burn 35 = .ok (.imul, 1) := by decide +kernel
theorem dX4_burn_36 : decode cX4_burn 36 = .ok (.iload_n 1, 1) := by decide +kernel
theorem dX4_burn_37 : decode cX4_burn 37 = .ok (.iconst 2, 1) := by decide +kernel
theorem dX4_burn_38 : decode cX4_burn 38 = .ok (.idiv, 1) := by decide +kernel
theorem dX4_burn_39 : decode cX4_burn 39 = .ok (.iadd, 1) := by decide +kernel
theorem dX4_burn_40 : decode cX4_burn 40 = .ok (.iload_n 1, 1) := by decide +kernel
theorem dX4_burn_41 : decode cX4_burn 41 = .ok (.idiv, 1) := by decide +kernel
theorem dX4_burn_42 : decode cX4_burn 42 = .ok (.isub, 1) := by decide +kernel
theorem dX4_burn_43 : decode cX4_burn 43 = .ok (.ireturn, 1) := by decide +kernel
theorem dX4_hard_0 : decode cX4_hard 0 = .ok (.iload_n 1, 1) := by decide +kernel
theorem dX4_hard_1 : decode cX4_hard 1 = .ok (.bipush 127, 2) := by decide +kernel
theorem dX4_hard_3 : decode cX4_hard 3 = .ok (.if_icmp .gt 11, 3) := by decide +kernel
theorem dX4_hard_6 : decode cX4_hard 6 = .ok (.iload_n 0, 1) := by decide +kernel
theorem dX4_hard_7 : decode cX4_hard 7 = .ok (.iconst 2, 1) := by decide +kernel
theorem dX4_hard_8 : decode cX4_hard 8 = .ok (.iload_n 1, 1) := by decide +kernel
theorem dX4_hard_9 : decode cX4_hard 9 = .ok (.imul, 1) := by decide +kernel
theorem dX4_hard_10 : decode cX4_hard 10 = .ok (.invokestatic 75, 3) := by decide +kernel
theorem dX4_hard_13 : decode cX4_hard 13 = .ok (.ireturn, 1) := by decide +kernel
theorem dX4_hard_14 : decode cX4_hard 14 = .ok (.iconst 2, 1) := by decide +kernel
theorem dX4_hard_15 : decode cX4_hard 15 = .ok (.iload_n 1, 1) := by decide +kernel
theorem dX4_hard_16 : decode cX4_hard 16 = .ok (.imul, 1) := by decide +kernel
theorem dX4_hard_17 : decode cX4_hard 17 = .ok (.sipush 255, 3) := by decide +kernel
theorem dX4_hard_20 : decode cX4_hard 20 = .ok (.isub, 1) := by decide +kernel
theorem dX4_hard_21 : decode cX4_hard 21 = .ok (.istore_n 2, 1) := by decide +kernel
theorem dX4_hard_22 : decode cX4_hard 22 = .ok (.iload_n 0, 1) := by decide +kernel
theorem dX4_hard_23 : decode cX4_hard 23 = .ok (.iload_n 2, 1) := by decide +kernel
theorem dX4_hard_24 : decode cX4_hard 24 = .ok (.iadd, 1) := by decide +kernel
theorem dX4_hard_25 : decode cX4_hard 25 = .ok (.iload_n 0, 1) := by decide +kernel
theorem dX4_hard_26 : decode cX4_hard 26 = .ok (.iload_n 2, 1) := by decide +kernel
theorem dX4_hard_27 : decode cX4_hard 27 = .ok (.invokestatic 75, 3) := by decide +kernel
theorem dX4_hard_30 : decode cX4_hard 30 = .ok (.isub, 1) := by decide +kernel
theorem dX4_hard_31 : decode cX4_hard 31 = .ok (.ireturn, 1) := by decide +kernel
theorem dX4_soft_0 : decode cX4_soft 0 = .ok (.iload_n 1, 1) := by decide +kernel
theorem dX4_soft_1 : decode cX4_soft 1 = .ok (.bipush 127, 2) := by decide +kernel
theorem dX4_soft_3 : decode cX4_soft 3 = .ok (.if_icmp .gt 30, 3) := by decide +kernel
theorem dX4_soft_6 : decode cX4_soft 6 = .ok (.iload_n 0, 1) := by decide +kernel
theorem dX4_soft_7 : decode cX4_soft 7 = .ok (.sipush 255, 3) := by decide +kernel
theorem dX4_soft_10 : decode cX4_soft 10 = .ok (.iconst 2, 1) := by decide +kernel
theorem dX4_soft_11 : decode cX4_soft 11 = .ok (.iload_n 1, 1) := by decide +kernel
theorem dX4_soft_12 : decode cX4_soft 12 = .ok (.imul, 1) := by decide +kernel
theorem dX4_soft_13 : decode cX4_soft 13 = .ok (.isub, 1) := by decide +kernel
theorem dX4_soft_14 : decode cX4_soft 14 = .ok (.iload_n 0, 1) := by decide +kernel
theorem dX4_soft_15 : decode cX4_soft 15 = .ok (.sipush 255, 3) := by decide +kernel
theorem dX4_soft_18 : decode cX4_soft 18 = .ok (.iload_n 0, 1) := by decide +kernel
theorem dX4_soft_19 : decode cX4_soft 19 = .ok (.isub, 1) := by decide +kernel
theorem dX4_soft_20 : decode cX4_soft 20 = .ok (.invokestatic 75, 3) := by decide +kernel
theorem dX4_soft_23 : decode cX4_soft 23 = .ok (.imul, 1) := by decide +kernel
theorem dX4_soft_24 : decode cX4_soft 24 = .ok (.bipush 127, 2) := by decide +kernel
theorem dX4_soft_26 : decode cX4_soft 26 = .ok (.iadd, 1) := by decide +kernel
theorem dX4_soft_27 : decode cX4_soft 27 = .ok (.sipush 255, 3) := by decide +kernel
theorem dX4_soft_30 : decode cX4_soft 30 = .ok (.idiv, 1) := by decide +kernel
theorem dX4_soft_31 : decode cX4_soft 31 = .ok (.isub, 1) := by decide +kernel
theorem dX4_soft_32 : decode cX4_soft 32 = .ok (.ireturn, 1) := by decide +kernel
theorem dX4_soft_33 : decode cX4_soft 33 = .ok (.iconst 0, 1) := by decide +kernel
theorem dX4_soft_34 : decode cX4_soft 34 = .ok (.istore_n 2, 1) := by decide +kernel
theorem dX4_soft_35 : decode cX4_soft 35 = .ok (.iload_n 2, 1) := by decide +kernel
theorem dX4_soft_36 : decode cX4_soft 36 = .ok (.iconst 1, 1) := by decide +kernel
theorem dX4_soft_37 : decode cX4_soft 37 = .ok (.iadd, 1) := by decide +kernel
theorem dX4_soft_38 : decode cX4_soft 38 = .ok (.iload_n 2, 1) := by decide +kernel
theorem dX4_soft_39 : decode cX4_soft 39 = .ok (.iconst 1, 1) := by decide +kernel
theorem dX4_soft_40 : decode cX4_soft 40 = .ok (.iadd, 1) := by decide +kernel
theorem dX4_soft_41 : decode cX4_soft 41 = .ok (.imul, 1) := by decide +kernel
theorem dX4_soft_42 : decode cX4_soft 42 = .ok (.sipush 255, 3) := by decide +kernel
theorem dX4_soft_45 : decode cX4_soft 45 = .ok (.iload_n 0, 1) := by decide +kernel
theorem dX4_soft_46 : decode cX4_soft 46 = .ok (.imul, 1) := by decide +kernel
theorem dX4_soft_47 : decode cX4_soft 47 = .ok (.if_icmp .gt 9, 3) := by decide +kernel
theorem dX4_soft_50 : decode cX4_soft 50 = .ok (.iinc 2 1, 3) := by decide +kernel
theorem dX4_soft_53 : decode cX4_soft 53 = .ok (.goto (-18), 3) := by decide +kernel
theorem dX4_soft_56 : decode cX4_soft 56 = .ok (.iload_n 0, 1) := by decide +kernel
theorem dX4_soft_57 : decode cX4_soft 57 = .ok (.iconst 2, 1) := by decide +kernel
theorem dX4_soft_58 : decode cX4_soft 58 = .ok (.iload_n 1, 1) := by decide +kernel
theorem dX4_soft_59 : decode cX4_soft 59 = .ok (.imul, 1) := by decide +kernel
theorem dX4_soft_60 : decode cX4_soft 60 = .ok (.sipush 255, 3) := by decide +kernel
theorem dX4_soft_63 : decode cX4_soft 63 = .ok (.isub, 1) := by decide +kernel
theorem dX4_soft_64 : decode cX4_soft 64 = .ok (.iload_n 2, 1) := by decide +kernel
theorem dX4_soft_65 : decode cX4_soft 65 = .ok (.iload_n 0, 1) := by decide +kernel
theorem dX4_soft_66 : decode cX4_soft 66 = .ok (.isub, 1) := by decide +kernel
theorem dX4_soft_67 : decode cX4_soft 67 = .ok (.imul, 1) := by decide +kernel
theorem dX4_soft_68 : decode cX4_soft 68 = .ok (.bipush 127, 2) := by decide +kernel
theorem dX4_soft_70 : decode cX4_soft 70 = .ok (.iadd, 1) := by decide +kernel
theorem dX4_soft_71 : decode cX4_soft 71 = .ok (.sipush 255, 3) := by decide +kernel
theorem dX4_soft_74 : decode cX4_soft 74 = .ok (.idiv, 1) := by decide +kernel
theorem dX4_soft_75 : decode cX4_soft 75 = .ok (.iadd, 1) := by decide +kernel
theorem dX4_soft_76 : decode cX4_soft 76 = .ok (.ireturn, 1) := by decide +kernel
theorem dX4_ofBytes_0 : decode cX4_ofBytes 0 = .ok (.iload_n 0, 1) := by decide +kernel
theorem dX4_ofBytes_1 : decode cX4_ofBytes 1 = .ok (.iconst 4, 1) := by decide +kernel
theorem dX4_ofBytes_2 : decode cX4_ofBytes 2 = .ok (.if_icmp .ge 47, 3) := by decide +kernel
theorem dX4_ofBytes_5 : decode cX4_ofBytes 5 = .ok (.iload_n 0, 1) := by decide +kernel
theorem dX4_ofBytes_6 : decode cX4_ofBytes 6 = .ok (.ifCond .ne 7, 3) := by decide +kernel
theorem dX4_ofBytes_9 : decode cX4_ofBytes 9 = .ok (.iload_n 2, 1) := by decide +kernel
theorem dX4_ofBytes_10 : decode cX4_ofBytes 10 = .ok (.goto 38, 3) := by decide +kernel
theorem dX4_ofBytes_13 : decode cX4_ofBytes 13 = .ok (.iload_n 0, 1) := by decide +kernel
theorem dX4_ofBytes_14 : decode cX4_ofBytes 14 = .ok (.iconst 1, 1) := by decide +kernel
theorem dX4_ofBytes_15 : decode cX4_ofBytes 15 = .ok (.if_icmp .ne 11, 3) := by decide +kernel
theorem dX4_ofBytes_18 : decode cX4_ofBytes 18 = .ok (.iload_n 1, 1) := by decide +kernel
theorem dX4_ofBytes_19 : decode cX4_ofBytes 19 = .ok (.iload_n 2, 1) := by decide +kernel
theorem dX4_ofBytes_20 : decode cX4_ofBytes 20 = .ok (.invokestatic 75, 3) := by decide +kernel
theorem dX4_ofBytes_23 : decode cX4_ofBytes 23 = .ok (.goto 25, 3) := by decide +kernel
theorem dX4_ofBytes_26 : decode cX4_ofBytes 26 = .ok (.iload_n 0, 1) := by decide +kernel
theorem dX4_ofBytes_27 : decode cX4_ofBytes 27 = .ok (.iconst 2, 1) := by decide +kernel
theorem dX4_ofBytes_28 : decode cX4_ofBytes 28 = .ok (.if_icmp .ne 15, 3) := by decide +kernel
theorem dX4_ofBytes_31 : decode cX4_ofBytes 31 = .ok (.iload_n 1, 1) := by decide +kernel
theorem dX4_ofBytes_32 : decode cX4_ofBytes 32 = .ok (.iload_n 2, 1) := by decide +kernel
theorem dX4_ofBytes_33 : decode cX4_ofBytes 33 = .ok (.iadd, 1) := by decide +kernel
theorem dX4_ofBytes_34 : decode cX4_ofBytes 34 = .ok (.iload_n 1, 1) := by decide +kernel
theorem dX4_ofBytes_35 : decode cX4_ofBytes 35 = .ok (.iload_n 2, 1) := by decide +kernel
theorem dX4_ofBytes_36 : decode cX4_ofBytes 36 = .ok (.invokestatic 75, 3) := by decide +kernel
theorem dX4_ofBytes_39 : decode cX4_ofBytes 39 = .ok (.isub, 1) := by decide +kernel
theorem dX4_ofBytes_40 : decode cX4_ofBytes 40 = .ok (.goto 8, 3) := by decide +kernel
theorem dX4_ofBytes_43 : decode cX4_ofBytes 43 = .ok (.iload_n 2, 1) := by decide +kernel
theorem dX4_ofBytes_44 : decode cX4_ofBytes 44 = .ok (.iload_n 1, 1) := by decide +kernel
theorem dX4_ofBytes_45 : decode cX4_ofBytes 45 = .ok (.invokestatic 79, 3) := by decide +kernel
theorem dX4_ofBytes_48 : decode cX4_ofBytes 48 = .ok (.ireturn, 1) := by decide +kernel
theorem dX4_ofBytes_49 : decode cX4_ofBytes 49 = .ok (.iload_n 0, 1) := by decide +kernel
theorem dX4_ofBytes_50 : decode cX4_ofBytes 50 = .ok (.bipush 8, 2) := by decide +kernel
theorem dX4_ofBytes_52 : decode cX4_ofBytes 52 = .ok (.if_icmp .ge 59, 3) := by decide +kernel
theorem dX4_ofBytes_55 : decode cX4_ofBytes 55 = .ok (.iload_n 0, 1) := by decide +kernel
theorem dX4_ofBytes_56 : decode cX4_ofBytes 56 = .ok (.iconst 4, 1) := by decide +kernel
theorem dX4_ofBytes_57 : decode cX4_ofBytes 57 = .ok (.if_icmp .ne 16, 3) := by decide +kernel
theorem dX4_ofBytes_60 : decode cX4_ofBytes 60 = .ok (.iload_n 1, 1) := by decide +kernel
theorem dX4_ofBytes_61 : decode cX4_ofBytes 61 = .ok (.iload_n 2, 1) := by decide +kernel
theorem dX4_ofBytes_62 : decode cX4_ofBytes 62 = .ok (.if_icmp .ge 7, 3) := by decide +kernel
theorem dX4_ofBytes_65 : decode cX4_ofBytes 65 = .ok (.iload_n 1, 1) := by decide +kernel
theorem dX4_ofBytes_66 : decode cX4_ofBytes 66 = .ok (.goto 44, 3) := by decide +kernel
theorem dX4_ofBytes_69 : decode cX4_ofBytes 69 = .ok (.iload_n 2, 1) := by decide +kernel
theorem dX4_ofBytes_70 : decode cX4_ofBytes 70 = .ok (.goto 40, 3) := by decide +kernel
theorem dX4_ofBytes_73 : decode cX4_ofBytes 73 = .ok (.iload_n 0, 1) := by decide +kernel
theorem dX4_ofBytes_74 : decode cX4_ofBytes 74 = .ok (.iconst 5, 1) := by decide +kernel
theorem dX4_ofBytes_75 : decode cX4_ofBytes 75 = .ok (.if_icmp .ne 16, 3) := by decide +kernel
theorem dX4_ofBytes_78 : decode cX4_ofBytes 78 = .ok (.iload_n 1, 1) := by decide +kernel
theorem dX4_ofBytes_79 : decode cX4_ofBytes 79 = .ok (.iload_n 2, 1) := by decide +kernel
theorem dX4_ofBytes_80 : decode cX4_ofBytes 80 = .ok (.if_icmp .le 7, 3) := by decide +kernel
theorem dX4_ofBytes_83 : decode cX4_ofBytes 83 = .ok (.iload_n 1, 1) := by decide +kernel
theorem dX4_ofBytes_84 : decode cX4_ofBytes 84 = .ok (.goto 26, 3) := by decide +kernel
theorem dX4_ofBytes_87 : decode cX4_ofBytes 87 = .ok (.iload_n 2, 1) := by decide +kernel
theorem dX4_ofBytes_88 : decode cX4_ofBytes 88 = .ok (.goto 22, 3) := by decide +kernel
theorem dX4_ofBytes_91 : decode cX4_ofBytes 91 = .ok (.iload_n 0, 1) := by decide +kernel
theorem dX4_ofBytes_92 : decode cX4_ofBytes 92 = .ok (.bipush 6, 2) := by decide +kernel
theorem dX4_ofBytes_94 : decode cX4_ofBytes 94 = .ok (.if_icmp .ne 11, 3) := by decide +kernel
theorem dX4_ofBytes_97 : decode cX4_ofBytes 97 = .ok (.iload_n 1, 1) := by decide +kernel
theorem dX4_ofBytes_98 : decode cX4_ofBytes 98 = .ok (.iload_n 2, 1) := by decide +kernel
theorem dX4_ofBytes_99 : decode cX4_ofBytes 99 = .ok (.invokestatic 82, 3) := by decide +kernel
theorem dX4_ofBytes_102 : decode cX4_ofBytes 102 = .ok (.goto 8, 3) := by decide +kernel
theorem dX4_ofBytes_105 : decode cX4_ofBytes 105 = .ok (.iload_n 1, 1) := by decide +kernel
theorem dX4_ofBytes_106 : decode cX4_ofBytes 106 = .ok (.iload_n 2, 1) := by decide +kernel
theorem dX4_ofBytes_107 : decode cX4_ofBytes 107 = .ok (.invokestatic 85, 3) := by decide +kernel
theorem dX4_ofBytes_110 : decode cX4_ofBytes 110 = .ok (.ireturn, 1) := by decide +kernel
theorem dX4_ofBytes_111 : decode cX4_ofBytes 111 = .ok (.iload_n 0, 1) := by decide +kernel
theorem dX4_ofBytes_112 : decode cX4_ofBytes 112 = .ok (.bipush 10, 2) := by decide +kernel
theorem dX4_ofBytes_114 : decode cX4_ofBytes 114 = .ok (.if_icmp .ge 23, 3) := by decide +kernel
theorem dX4_ofBytes_117 : decode cX4_ofBytes 117 = .ok (.iload_n 0, 1) := by decide +kernel
theorem dX4_ofBytes_118 : decode cX4_ofBytes 118 = .ok (.bipush 8, 2) := by decide +kernel
theorem dX4_ofBytes_120 : decode cX4_ofBytes 120 = .ok (.if_icmp .ne 11, 3) := by decide +kernel
theorem dX4_ofBytes_123 : decode cX4_ofBytes 123 = .ok (.iload_n 1, 1) := by decide +kernel
theorem dX4_ofBytes_124 : decode cX4_ofBytes 124 = .ok (.iload_n 2, 1) := by decide +kernel
theorem dX4_ofBytes_125 : decode cX4_ofBytes 125 = .ok (.invokestatic 79, 3) := by decide +kernel
theorem dX4_ofBytes_128 : decode cX4_ofBytes 128 = .ok (.goto 8, 3) := by decide +kernel
theorem dX4_ofBytes_131 : decode cX4_ofBytes 131 = .ok (.iload_n 1, 1) := by decide +kernel
theorem dX4_ofBytes_132 : decode cX4_ofBytes 132 = .ok (.iload_n 2, 1) := by decide +kernel
theorem dX4_ofBytes_133 : decode cX4_ofBytes 133 = .ok (.invokestatic 88, 3) := by decide +kernel
theorem dX4_ofBytes_136 : decode cX4_ofBytes 136 = .ok (.ireturn, 1) := by decide +kernel
theorem dX4_ofBytes_137 : decode cX4_ofBytes 137 = .ok (.iload_n 1, 1) := by decide +kernel
theorem dX4_ofBytes_138 : decode cX4_ofBytes 138 = .ok (.iload_n 2, 1) := by decide +kernel
theorem dX4_ofBytes_139 : decode cX4_ofBytes 139 = .ok (.iadd, 1) := by decide +kernel
theorem dX4_ofBytes_140 : decode cX4_ofBytes 140 = .ok (.iconst 2, 1) := by decide +kernel
theorem dX4_ofBytes_141 : decode cX4_ofBytes 141 = .ok (.iload_n 1, 1) := by decide +kernel
theorem dX4_ofBytes_142 : decode cX4_ofBytes 142 = .ok (.iload_n 2, 1) := by decide +kernel
theorem dX4_ofBytes_143 : decode cX4_ofBytes 143 = .ok (.invokestatic 75, 3) := by decide +kernel
theorem dX4_ofBytes_146 : decode cX4_ofBytes 146 = .ok (.imul, 1) := by decide +kernel
theorem dX4_ofBytes_147 : decode cX4_ofBytes 147 = .ok (.isub, 1) := by decide +kernel
theorem dX4_ofBytes_148 : decode cX4_ofBytes 148 = .ok (.istore_n 3, 1) := by decide +kernel
theorem dX4_ofBytes_149 : decode cX4_ofBytes 149 = .ok (.iload_n 0, 1) := by decide +kernel
theorem dX4_ofBytes_150 : decode cX4_ofBytes 150 = .ok (.bipush 10, 2) := by decide +kernel
theorem dX4_ofBytes_152 : decode cX4_ofBytes 152 = .ok (.if_icmp .ne 20, 3) := by decide +kernel
theorem dX4_ofBytes_155 : decode cX4_ofBytes 155 = .ok (.iload_n 1, 1) := by decide +kernel
theorem dX4_ofBytes_156 : decode cX4_ofBytes 156 = .ok (.iload_n 2, 1) := by decide +kernel
theorem dX4_ofBytes_157 : decode cX4_ofBytes 157 = .ok (.if_icmp .le 9, 3) := by decide +kernel
theorem dX4_ofBytes_160 : decode cX4_ofBytes 160 = .ok (.iload_n 1, 1) := by decide +kernel
theorem dX4_ofBytes_161 : decode cX4_ofBytes 161 = .ok (.iload_n 2, 1) := by decide +kernel
theorem dX4_ofBytes_162 : decode cX4_ofBytes 162 = .ok (.isub, 1) := by decide +kernel
theorem dX4_ofBytes_163 : decode cX4_ofBytes 163 = .ok (.goto 18, 3) := by decide +kernel
theorem dX4_ofBytes_166 : decode cX4_ofBytes 166 = .ok (.iload_n 2, 1) := by decide +kernel
theorem dX4_ofBytes_167 : decode cX4_ofBytes 167 = .ok (.iload_n 1, 1) := by decide +kernel
theorem dX4_ofBytes_168 : decode cX4_ofBytes 168 = .ok (.isub, 1) := by decide +kernel
theorem dX4_ofBytes_169 : decode cX4_ofBytes 169 = .ok (.goto 12, 3) := by decide +kernel
theorem dX4_ofBytes_172 : decode cX4_ofBytes 172 = .ok (.iload_n 3, 1) := by decide +kernel
theorem dX4_ofBytes_173 : decode cX4_ofBytes 173 = .ok (.ifCond .ge 7, 3) := by decide +kernel
theorem dX4_ofBytes_176 : decode cX4_ofBytes 176 = .ok (.iconst 0, 1) := by decide +kernel
theorem dX4_ofBytes_177 : decode cX4_ofBytes 177 = .ok (.goto 4, 3) := by decide +kernel
theorem dX4_ofBytes_180 : decode cX4_ofBytes 180 = .ok (.iload_n 3, 1) := by decide +kernel
theorem dX4_ofBytes_181 : decode cX4_ofBytes 181 = .ok (.ireturn, 1) := by decide +kernel
theorem dX4_down_0 : decode cX4_down 0 = .ok (.iload_n 0, 1) := by decide +kernel
theorem dX4_down_1 : decode cX4_down 1 = .ok (.iload_n 1, 1) := by decide +kernel
theorem dX4_down_2 : decode cX4_down 2 = .ok (.idiv, 1) := by decide +kernel
theorem dX4_down_3 : decode cX4_down 3 = .ok (.istore_n 2, 1) := by decide +kernel
theorem dX4_down_4 : decode cX4_down 4 = .ok (.iload_n 0, 1) := by decide +kernel
theorem dX4_down_5 : decode cX4_down 5 = .ok (.iload_n 1, 1) := by decide +kernel
theorem dX4_down_6 : decode cX4_down 6 = .ok (.irem, 1) := by decide +kernel
theorem dX4_down_7 : decode cX4_down 7 = .ok (.ifCond .eq 30, 3) := by decide +kernel
theorem dX4_down_10 : decode cX4_down 10 = .ok (.iload_n 0, 1) := by decide +kernel
theorem dX4_down_11 : decode cX4_down 11 = .ok (.ifCond .ge 7, 3) := by decide +kernel
theorem dX4_down_14 : decode cX4_down 14 = .ok (.iconst 1, 1) := by decide +kernel
theorem dX4_down_15 : decode cX4_down 15 = .ok (.goto 4, 3) := by decide +kernel
theorem dX4_down_18 : decode cX4_down 18 = .ok (.iconst 0, 1) := by decide +kernel
theorem dX4_down_19 : decode cX4_down 19 = .ok (.iload_n 1, 1) := by decide +kernel
theorem dX4_down_20 : decode cX4_down 20 = .ok (.ifCond .ge 7, 3) := by decide +kernel
theorem dX4_down_23 : decode cX4_down 23 = .ok (.iconst 1, 1) := by decide +kernel
theorem dX4_down_24 : decode cX4_down 24 = .ok (.goto 4, 3) := by decide +kernel
theorem dX4_down_27 : decode cX4_down 27 = .ok (.iconst 0, 1) := by decide +kernel
theorem dX4_down_28 : decode cX4_down 28 = .ok (.if_icmp .eq 9, 3) := by decide +kernel
theorem dX4_down_31 : decode cX4_down 31 = .ok (.iload_n 2, 1) := by decide +kernel
theorem dX4_down_32 : decode cX4_down 32 = .ok (.iconst 1, 1) := by decide +kernel
theorem dX4_down_33 : decode cX4_down 33 = .ok (.isub, 1) := by decide +kernel
theorem dX4_down_34 : decode cX4_down 34 = .ok (.goto 4, 3) := by decide +kernel
theorem dX4_down_37 : decode cX4_down 37 = .ok (.iload_n 2, 1) := by decide +kernel
theorem dX4_down_38 : decode cX4_down 38 = .ok (.ireturn, 1) := by decide +kernel
theorem dX4_lum_0 : decode cX4_lum 0 = .ok (.bipush 30, 2) := by decide +kernel
theorem dX4_lum_2 : decode cX4_lum 2 = .ok (.aload_n 0, 1) := by decide +kernel
theorem dX4_lum_3 : decode cX4_lum 3 = .ok (.iconst 0, 1) := by decide +kernel
theorem dX4_lum_4 : decode cX4_lum 4 = .ok (.iaload, 1) := by decide +kernel
theorem dX4_lum_5 : decode cX4_lum 5 = .ok (.imul, 1) := by decide +kernel
theorem dX4_lum_6 : decode cX4_lum 6 = .ok (.bipush 59, 2) := by decide +kernel
theorem dX4_lum_8 : decode cX4_lum 8 = .ok (.aload_n 0, 1) := by decide +kernel
theorem dX4_lum_9 : decode cX4_lum 9 = .ok (.iconst 1, 1) := by decide +kernel
theorem dX4_lum_10 : decode cX4_lum 10 = .ok (.iaload, 1) := by decide +kernel
theorem dX4_lum_11 : decode cX4_lum 11 = .ok (.imul, 1) := by decide +kernel
theorem dX4_lum_12 : decode cX4_lum 12 = .ok (.iadd, 1) := by decide +kernel
theorem dX4_lum_13 : decode cX4_lum 13 = .ok (.bipush 11, 2) := by decide +kernel
theorem dX4_lum_15 : decode cX4_lum 15 = .ok (.aload_n 0, 1) := by decide +kernel
theorem dX4_lum_16 : decode cX4_lum 16 = .ok (.iconst 2, 1) := by decide +kernel
theorem dX4_lum_17 : decode cX4_lum 17 = .ok (.iaload, 1) := by decide +kernel
theorem dX4_lum_18 : decode cX4_lum 18 = .ok (.imul, 1) := by decide +kernel
theorem dX4_lum_19 : decode cX4_lum 19 = .ok (.iadd, 1) := by decide +kernel
theorem dX4_lum_20 : decode cX4_lum 20 = .ok (.bipush 100, 2) := by decide +kernel
theorem dX4_lum_22 : decode cX4_lum 22 = .ok (.invokestatic 91, 3) := by decide +kernel
theorem dX4_lum_25 : decode cX4_lum 25 = .ok (.ireturn, 1) := by decide +kernel
theorem dX4_least_0 : decode cX4_least 0 = .ok (.aload_n 0, 1) := by decide +kernel
theorem dX4_least_1 : decode cX4_least 1 = .ok (.iconst 0, 1) := by decide +kernel
theorem dX4_least_2 : decode cX4_least 2 = .ok (.iaload, 1) := by decide +kernel
theorem dX4_least_3 : decode cX4_least 3 = .ok (.aload_n 0, 1) := by decide +kernel
theorem dX4_least_4 : decode cX4_least 4 = .ok (.iconst 1, 1) := by decide +kernel
theorem dX4_least_5 : decode cX4_least 5 = .ok (.iaload, 1) := by decide +kernel
theorem dX4_least_6 : decode cX4_least 6 = .ok (.if_icmp .ge 9, 3) := by decide +kernel
theorem dX4_least_9 : decode cX4_least 9 = .ok (.aload_n 0, 1) := by decide +kernel
theorem dX4_least_10 : decode cX4_least 10 = .ok (.iconst 0, 1) := by decide +kernel
theorem dX4_least_11 : decode cX4_least 11 = .ok (.iaload, 1) := by decide +kernel
theorem dX4_least_12 : decode cX4_least 12 = .ok (.goto 6, 3) := by decide +kernel
theorem dX4_least_15 : decode cX4_least 15 = .ok (.aload_n 0, 1) := by decide +kernel
theorem dX4_least_16 : decode cX4_least 16 = .ok (.iconst 1, 1) := by decide +kernel
theorem dX4_least_17 : decode cX4_least 17 = .ok (.iaload, 1) := by decide +kernel
theorem dX4_least_18 : decode cX4_least 18 = .ok (.istore_n 1, 1) := by decide +kernel
theorem dX4_least_19 : decode cX4_least 19 = .ok (.iload_n 1, 1) := by decide +kernel
theorem dX4_least_20 : decode cX4_least 20 = .ok (.aload_n 0, 1) := by decide +kernel
theorem dX4_least_21 : decode cX4_least 21 = .ok (.iconst 2, 1) := by decide +kernel
theorem dX4_least_22 : decode cX4_least 22 = .ok (.iaload, 1) := by decide +kernel
theorem dX4_least_23 : decode cX4_least 23 = .ok (.if_icmp .ge 7, 3) := by decide +kernel
theorem dX4_least_26 : decode cX4_least 26 = .ok (.iload_n 1, 1) := by decide +kernel
theorem dX4_least_27 : decode cX4_least 27 = .ok (.goto 6, 3) := by decide +kernel
theorem dX4_least_30 : decode cX4_least 30 = .ok (.aload_n 0, 1) := by decide +kernel
theorem dX4_least_31 : decode cX4_least 31 = .ok (.iconst 2, 1) := by decide +kernel
theorem dX4_least_32 : decode cX4_least 32 = .ok (.iaload, 1) := by decide +kernel
theorem dX4_least_33 : decode cX4_least 33 = .ok (.ireturn, 1) := by decide +kernel
theorem dX4_greatest_0 : decode cX4_greatest 0 = .ok (.aload_n 0, 1) := by decide +kernel
theorem dX4_greatest_1 : decode cX4_greatest 1 = .ok (.iconst 0, 1) := by decide +kernel
theorem dX4_greatest_2 : decode cX4_greatest 2 = .ok (.iaload, 1) := by decide +kernel
theorem dX4_greatest_3 : decode cX4_greatest 3 = .ok (.aload_n 0, 1) := by decide +kernel
theorem dX4_greatest_4 : decode cX4_greatest 4 = .ok (.iconst 1, 1) := by decide +kernel
theorem dX4_greatest_5 : decode cX4_greatest 5 = .ok (.iaload, 1) := by decide +kernel
theorem dX4_greatest_6 : decode cX4_greatest 6 = .ok (.if_icmp .le 9, 3) := by decide +kernel
theorem dX4_greatest_9 : decode cX4_greatest 9 = .ok (.aload_n 0, 1) := by decide +kernel
theorem dX4_greatest_10 : decode cX4_greatest 10 = .ok (.iconst 0, 1) := by decide +kernel
theorem dX4_greatest_11 : decode cX4_greatest 11 = .ok (.iaload, 1) := by decide +kernel
theorem dX4_greatest_12 : decode cX4_greatest 12 = .ok (.goto 6, 3) := by decide +kernel
theorem dX4_greatest_15 : decode cX4_greatest 15 = .ok (.aload_n 0, 1) := by decide +kernel
theorem dX4_greatest_16 : decode cX4_greatest 16 = .ok (.iconst 1, 1) := by decide +kernel
theorem dX4_greatest_17 : decode cX4_greatest 17 = .ok (.iaload, 1) := by decide +kernel
theorem dX4_greatest_18 : decode cX4_greatest 18 = .ok (.istore_n 1, 1) := by decide +kernel
theorem dX4_greatest_19 : decode cX4_greatest 19 = .ok (.iload_n 1, 1) := by decide +kernel
theorem dX4_greatest_20 : decode cX4_greatest 20 = .ok (.aload_n 0, 1) := by decide +kernel
theorem dX4_greatest_21 : decode cX4_greatest 21 = .ok (.iconst 2, 1) := by decide +kernel
theorem dX4_greatest_22 : decode cX4_greatest 22 = .ok (.iaload, 1) := by decide +kernel
theorem dX4_greatest_23 : decode cX4_greatest 23 = .ok (.if_icmp .le 7, 3) := by decide +kernel
theorem dX4_greatest_26 : decode cX4_greatest 26 = .ok (.iload_n 1, 1) := by decide +kernel
theorem dX4_greatest_27 : decode cX4_greatest 27 = .ok (.goto 6, 3) := by decide +kernel
theorem dX4_greatest_30 : decode cX4_greatest 30 = .ok (.aload_n 0, 1) := by decide +kernel
theorem dX4_greatest_31 : decode cX4_greatest 31 = .ok (.iconst 2, 1) := by decide +kernel
theorem dX4_greatest_32 : decode cX4_greatest 32 = .ok (.iaload, 1) := by decide +kernel
theorem dX4_greatest_33 : decode cX4_greatest 33 = .ok (.ireturn, 1) := by decide +kernel
theorem dX4_sat_0 : decode cX4_sat 0 = .ok (.aload_n 0, 1) := by decide +kernel
theorem dX4_sat_1 : decode cX4_sat 1 = .ok (.invokestatic 94, 3) := by decide +kernel
theorem dX4_sat_4 : decode cX4_sat 4 = .ok (.aload_n 0, 1) := by decide +kernel
theorem dX4_sat_5 : decode cX4_sat 5 = .ok (.invokestatic 98, 3) := by decide +kernel
theorem dX4_sat_8 : decode cX4_sat 8 = .ok (.isub, 1) := by decide +kernel
theorem dX4_sat_9 : decode cX4_sat 9 = .ok (.ireturn, 1) := by decide +kernel
theorem dX4_setSat_0 : decode cX4_setSat 0 = .ok (.aload_n 0, 1) := by decide +kernel
theorem dX4_setSat_1 : decode cX4_setSat 1 = .ok (.getfield 63, 3) := by decide +kernel
theorem dX4_setSat_4 : decode cX4_setSat 4 = .ok (.invokestatic 98, 3) := by decide +kernel
theorem dX4_setSat_7 : decode cX4_setSat 7 = .ok (.istore_n 2, 1) := by decide +kernel
theorem dX4_setSat_8 : decode cX4_setSat 8 = .ok (.aload_n 0, 1) := by decide +kernel
theorem dX4_setSat_9 : decode cX4_setSat 9 = .ok (.getfield 63, 3) := by decide +kernel
theorem dX4_setSat_12 : decode cX4_setSat 12 = .ok (.invokestatic 101, 3) := by decide +kernel
theorem dX4_setSat_15 : decode cX4_setSat 15 = .ok (.istore_n 3, 1) := by decide +kernel
theorem dX4_setSat_16 : decode cX4_setSat 16 = .ok (.iconst 0, 1) := by decide +kernel
theorem dX4_setSat_17 : decode cX4_setSat 17 = .ok (.istore 4, 2) := by decide +kernel
theorem dX4_setSat_19 : decode cX4_setSat 19 = .ok (.iload 4, 2) := by decide +kernel
theorem dX4_setSat_21 : decode cX4_setSat 21 = .ok (.iconst 3, 1) := by decide +kernel
theorem dX4_setSat_22 : decode cX4_setSat 22 = .ok (.if_icmp .ge 37, 3) := by decide +kernel
theorem dX4_setSat_25 : decode cX4_setSat 25 = .ok (.aload_n 0, 1) := by decide +kernel
theorem dX4_setSat_26 : decode cX4_setSat 26 = .ok (.getfield 63, 3) := by decide +kernel
theorem dX4_setSat_29 : decode cX4_setSat 29 = .ok (.iload 4, 2) := by decide +kernel
theorem dX4_setSat_31 : decode cX4_setSat 31 = .ok (.iload_n 3, 1) := by decide +kernel
theorem dX4_setSat_32 : decode cX4_setSat 32 = .ok (.ifCond .ne 7, 3) := by decide +kernel
theorem dX4_setSat_35 : decode cX4_setSat 35 = .ok (.iconst 0, 1) := by decide +kernel
theorem dX4_setSat_36 : decode cX4_setSat 36 = .ok (.goto 16, 3) := by decide +kernel
theorem dX4_setSat_39 : decode cX4_setSat 39 = .ok (.aload_n 0, 1) := by decide +kernel
theorem dX4_setSat_40 : decode cX4_setSat 40 = .ok (.getfield 63, 3) := by decide +kernel
theorem dX4_setSat_43 : decode cX4_setSat 43 = .ok (.iload 4, 2) := by decide +kernel
theorem dX4_setSat_45 : decode cX4_setSat 45 = .ok (.iaload, 1) := by decide +kernel
theorem dX4_setSat_46 : decode cX4_setSat 46 = .ok (.iload_n 2, 1) := by decide +kernel
theorem dX4_setSat_47 : decode cX4_setSat 47 = .ok (.isub, 1) := by decide +kernel
theorem dX4_setSat_48 : decode cX4_setSat 48 = .ok (.iload_n 1, 1) := by decide +kernel
theorem dX4_setSat_49 : decode cX4_setSat 49 = .ok (.imul, 1) := by decide +kernel
theorem dX4_setSat_50 : decode cX4_setSat 50 = .ok (.iload_n 3, 1) := by decide +kernel
theorem dX4_setSat_51 : decode cX4_setSat 51 = .ok (.idiv, 1) := by decide +kernel
theorem dX4_setSat_52 : decode cX4_setSat 52 = .ok (.iastore, 1) := by decide +kernel
theorem dX4_setSat_53 : decode cX4_setSat 53 = .ok (.iinc 4 1, 3) := by decide +kernel
theorem dX4_setSat_56 : decode cX4_setSat 56 = .ok (.goto (-37), 3) := by decide +kernel
theorem dX4_setSat_59 : decode cX4_setSat 59 = .ok (.return_, 1) := by decide +kernel
theorem dX4_setLum_0 : decode cX4_setLum 0 = .ok (.iload_n 1, 1) := by decide +kernel
theorem dX4_setLum_1 : decode cX4_setLum 1 = .ok (.aload_n 0, 1) := by decide +kernel
theorem dX4_setLum_2 : decode cX4_setLum 2 = .ok (.getfield 63, 3) := by decide +kernel
theorem dX4_setLum_5 : decode cX4_setLum 5 = .ok (.invokestatic 104, 3) := by decide +kernel
theorem dX4_setLum_8 : decode cX4_setLum 8 = .ok (.isub, 1) := by decide +kernel
theorem dX4_setLum_9 : decode cX4_setLum 9 = .ok (.istore_n 2, 1) := by decide +kernel
theorem dX4_setLum_10 : decode cX4_setLum 10 = .ok (.iconst 0, 1) := by decide +kernel
theorem dX4_setLum_11 : decode cX4_setLum 11 = .ok (.istore_n 3, 1) := by decide +kernel
theorem dX4_setLum_12 : decode cX4_setLum 12 = .ok (.iload_n 3, 1) := by decide +kernel
theorem dX4_setLum_13 : decode cX4_setLum 13 = .ok (.iconst 3, 1) := by decide +kernel
theorem dX4_setLum_14 : decode cX4_setLum 14 = .ok (.if_icmp .ge 23, 3) := by decide +kernel
theorem dX4_setLum_17 : decode cX4_setLum 17 = .ok (.aload_n 0, 1) := by decide +kernel
theorem dX4_setLum_18 : decode cX4_setLum 18 = .ok (.getfield 63, 3) := by decide +kernel
theorem dX4_setLum_21 : decode cX4_setLum 21 = .ok (.iload_n 3, 1) := by decide +kernel
theorem dX4_setLum_22 : decode cX4_setLum 22 = .ok (.aload_n 0, 1) := by decide +kernel
theorem dX4_setLum_23 : decode cX4_setLum 23 = .ok (.getfield 63, 3) := by decide +kernel
theorem dX4_setLum_26 : decode cX4_setLum 26 = .ok (.iload_n 3, 1) := by decide +kernel
theorem dX4_setLum_27 : decode cX4_setLum 27 = .ok (.iaload, 1) := by decide +kernel
theorem dX4_setLum_28 : decode cX4_setLum 28 = .ok (.iload_n 2, 1) := by decide +kernel
theorem dX4_setLum_29 : decode cX4_setLum 29 = .ok (.iadd, 1) := by decide +kernel
theorem dX4_setLum_30 : decode cX4_setLum 30 = .ok (.iastore, 1) := by decide +kernel
theorem dX4_setLum_31 : decode cX4_setLum 31 = .ok (.iinc 3 1, 3) := by decide +kernel
theorem dX4_setLum_34 : decode cX4_setLum 34 = .ok (.goto (-22), 3) := by decide +kernel
theorem dX4_setLum_37 : decode cX4_setLum 37 = .ok (.aload_n 0, 1) := by decide +kernel
theorem dX4_setLum_38 : decode cX4_setLum 38 = .ok (.getfield 63, 3) := by decide +kernel
theorem dX4_setLum_41 : decode cX4_setLum 41 = .ok (.invokestatic 104, 3) := by decide +kernel
theorem dX4_setLum_44 : decode cX4_setLum 44 = .ok (.istore_n 3, 1) := by decide +kernel
theorem dX4_setLum_45 : decode cX4_setLum 45 = .ok (.aload_n 0, 1) := by decide +kernel
theorem dX4_setLum_46 : decode cX4_setLum 46 = .ok (.getfield 63, 3) := by decide +kernel
theorem dX4_setLum_49 : decode cX4_setLum 49 = .ok (.invokestatic 98, 3) := by decide +kernel
theorem dX4_setLum_52 : decode cX4_setLum 52 = .ok (.istore 4, 2) := by decide +kernel
theorem dX4_setLum_54 : decode cX4_setLum 54 = .ok (.aload_n 0, 1) := by decide +kernel
theorem dX4_setLum_55 : decode cX4_setLum 55 = .ok (.getfield 63, 3) := by decide +kernel
theorem dX4_setLum_58 : decode cX4_setLum 58 = .ok (.invokestatic 94, 3) := by decide +kernel
theorem dX4_setLum_61 : decode cX4_setLum 61 = .ok (.istore 5, 2) := by decide +kernel
theorem dX4_setLum_63 : decode cX4_setLum 63 = .ok (.iconst 0, 1) := by decide +kernel
theorem dX4_setLum_64 : decode cX4_setLum 64 = .ok (.istore 6, 2) := by decide +kernel
theorem dX4_setLum_66 : decode cX4_setLum 66 = .ok (.iload 6, 2) := by decide +kernel
theorem dX4_setLum_68 : decode cX4_setLum 68 = .ok (.iconst 3, 1) := by decide +kernel
theorem dX4_setLum_69 : decode cX4_setLum 69 = .ok (.if_icmp .ge 41, 3) := by decide +kernel
theorem dX4_setLum_72 : decode cX4_setLum 72 = .ok (.iload 4, 2) := by decide +kernel
theorem dX4_setLum_74 : decode cX4_setLum 74 = .ok (.ifCond .ge 36, 3) := by decide +kernel
theorem dX4_setLum_77 : decode cX4_setLum 77 = .ok (.aload_n 0, 1) := by decide +kernel
theorem dX4_setLum_78 : decode cX4_setLum 78 = .ok (.getfield 63, 3) := by decide +kernel
theorem dX4_setLum_81 : decode cX4_setLum 81 = .ok (.iload 6, 2) := by decide +kernel
theorem dX4_setLum_83 : decode cX4_setLum 83 = .ok (.iload_n 3, 1) := by decide +kernel
theorem dX4_setLum_84 : decode cX4_setLum 84 = .ok (.aload_n 0, 1) := by decide +kernel
theorem dX4_setLum_85 : decode cX4_setLum 85 = .ok (.getfield 63, 3) := by decide +kernel
theorem dX4_setLum_88 : decode cX4_setLum 88 = .ok (.iload 6, 2) := by decide +kernel
theorem dX4_setLum_90 : decode cX4_setLum 90 = .ok (.iaload, 1) := by decide +kernel
theorem dX4_setLum_91 : decode cX4_setLum 91 = .ok (.iload_n 3, 1) := by decide +kernel
theorem dX4_setLum_92 : decode cX4_setLum 92 = .ok (.isub, 1) := by decide +kernel
theorem dX4_setLum_93 : decode cX4_setLum 93 = .ok (.iload_n 3, 1) := by decide +kernel
theorem dX4_setLum_94 : decode cX4_setLum 94 = .ok (.imul, 1) := by decide +kernel
theorem dX4_setLum_95 : decode cX4_setLum 95 = .ok (.iload_n 3, 1) := by decide +kernel
theorem dX4_setLum_96 : decode cX4_setLum 96 = .ok (.iload 4, 2) := by decide +kernel
theorem dX4_setLum_98 : decode cX4_setLum 98 = .ok (.isub, 1) := by decide +kernel
theorem dX4_setLum_99 : decode cX4_setLum 99 = .ok (.invokestatic 91, 3) := by decide +kernel
theorem dX4_setLum_102 : decode cX4_setLum 102 = .ok (.iadd, 1) := by decide +kernel
theorem dX4_setLum_103 : decode cX4_setLum 103 = .ok (.iastore, 1) := by decide +kernel
theorem dX4_setLum_104 : decode cX4_setLum 104 = .ok (.iinc 6 1, 3) := by decide +kernel
theorem dX4_setLum_107 : decode cX4_setLum 107 = .ok (.goto (-41), 3) := by decide +kernel
theorem dX4_setLum_110 : decode cX4_setLum 110 = .ok (.iconst 0, 1) := by decide +kernel
theorem dX4_setLum_111 : decode cX4_setLum 111 = .ok (.istore 6, 2) := by decide +kernel
theorem dX4_setLum_113 : decode cX4_setLum 113 = .ok (.iload 6, 2) := by decide +kernel
theorem dX4_setLum_115 : decode cX4_setLum 115 = .ok (.iconst 3, 1) := by decide +kernel
theorem dX4_setLum_116 : decode cX4_setLum 116 = .ok (.if_icmp .ge 48, 3) := by decide +kernel
theorem dX4_setLum_119 : decode cX4_setLum 119 = .ok (.iload 5, 2) := by decide +kernel
theorem dX4_setLum_121 : decode cX4_setLum 121 = .ok (.sipush 255, 3) := by decide +kernel
theorem dX4_setLum_124 : decode cX4_setLum 124 = .ok (.if_icmp .le 40, 3) := by decide +kernel
theorem dX4_setLum_127 : decode cX4_setLum 127 = .ok (.aload_n 0, 1) := by decide +kernel
theorem dX4_setLum_128 : decode cX4_setLum 128 = .ok (.getfield 63, 3) := by decide +kernel
theorem dX4_setLum_131 : decode cX4_setLum 131 = .ok (.iload 6, 2) := by decide +kernel
theorem dX4_setLum_133 : decode cX4_setLum 133 = .ok (.iload_n 3, 1) := by decide +kernel
theorem dX4_setLum_134 : decode cX4_setLum 134 = .ok (.aload_n 0, 1) := by decide +kernel
theorem dX4_setLum_135 : decode cX4_setLum 135 = .ok (.getfield 63, 3) := by decide +kernel
theorem dX4_setLum_138 : decode cX4_setLum 138 = .ok (.iload 6, 2) := by decide +kernel
theorem dX4_setLum_140 : decode cX4_setLum 140 = .ok (.iaload, 1) := by decide +kernel
theorem dX4_setLum_141 : decode cX4_setLum 141 = .ok (.iload_n 3, 1) := by decide +kernel
theorem dX4_setLum_142 : decode cX4_setLum 142 = .ok (.isub, 1) := by decide +kernel
theorem dX4_setLum_143 : decode cX4_setLum 143 = .ok (.sipush 255, 3) := by decide +kernel
theorem dX4_setLum_146 : decode cX4_setLum 146 = .ok (.iload_n 3, 1) := by decide +kernel
theorem dX4_setLum_147 : decode cX4_setLum 147 = .ok (.isub, 1) := by decide +kernel
theorem dX4_setLum_148 : decode cX4_setLum 148 = .ok (.imul, 1) := by decide +kernel
theorem dX4_setLum_149 : decode cX4_setLum 149 = .ok (.iload 5, 2) := by decide +kernel
theorem dX4_setLum_151 : decode cX4_setLum 151 = .ok (.iload_n 3, 1) := by decide +kernel
theorem dX4_setLum_152 : decode cX4_setLum 152 = .ok (.isub, 1) := by decide +kernel
theorem dX4_setLum_153 : decode cX4_setLum 153 = .ok (.invokestatic 91, 3) := by decide +kernel
theorem dX4_setLum_156 : decode cX4_setLum 156 = .ok (.iadd, 1) := by decide +kernel
theorem dX4_setLum_157 : decode cX4_setLum 157 = .ok (.iastore, 1) := by decide +kernel
theorem dX4_setLum_158 : decode cX4_setLum 158 = .ok (.iinc 6 1, 3) := by decide +kernel
theorem dX4_setLum_161 : decode cX4_setLum 161 = .ok (.goto (-48), 3) := by decide +kernel
theorem dX4_setLum_164 : decode cX4_setLum 164 = .ok (.iconst 0, 1) := by decide +kernel
theorem dX4_setLum_165 : decode cX4_setLum 165 = .ok (.istore 6, 2) := by decide +kernel
theorem dX4_setLum_167 : decode cX4_setLum 167 = .ok (.iload 6, 2) := by decide +kernel
theorem dX4_setLum_169 : decode cX4_setLum 169 = .ok (.iconst 3, 1) := by decide +kernel
theorem dX4_setLum_170 : decode cX4_setLum 170 = .ok (.if_icmp .ge 56, 3) := by decide +kernel
theorem dX4_setLum_173 : decode cX4_setLum 173 = .ok (.aload_n 0, 1) := by decide +kernel
theorem dX4_setLum_174 : decode cX4_setLum 174 = .ok (.getfield 63, 3) := by decide +kernel
theorem dX4_setLum_177 : decode cX4_setLum 177 = .ok (.iload 6, 2) := by decide +kernel
theorem dX4_setLum_179 : decode cX4_setLum 179 = .ok (.aload_n 0, 1) := by decide +kernel
theorem dX4_setLum_180 : decode cX4_setLum 180 = .ok (.getfield 63, 3) := by decide +kernel
theorem dX4_setLum_183 : decode cX4_setLum 183 = .ok (.iload 6, 2) := by decide +kernel
theorem dX4_setLum_185 : decode cX4_setLum 185 = .ok (.iaload, 1) := by decide +kernel
theorem dX4_setLum_186 : decode cX4_setLum 186 = .ok (.ifCond .ge 7, 3) := by decide +kernel
theorem dX4_setLum_189 : decode cX4_setLum 189 = .ok (.iconst 0, 1) := by decide +kernel
theorem dX4_setLum_190 : decode cX4_setLum 190 = .ok (.goto 29, 3) := by decide +kernel
theorem dX4_setLum_193 : decode cX4_setLum 193 = .ok (.aload_n 0, 1) := by decide +kernel
theorem dX4_setLum_194 : decode cX4_setLum 194 = .ok (.getfield 63, 3) := by decide +kernel
theorem dX4_setLum_197 : decode cX4_setLum 197 = .ok (.iload 6, 2) := by decide +kernel
theorem dX4_setLum_199 : decode cX4_setLum 199 = .ok (.iaload, 1) := by decide +kernel
theorem dX4_setLum_200 : decode cX4_setLum 200 = .ok (.sipush 255, 3) := by decide +kernel
theorem dX4_setLum_203 : decode cX4_setLum 203 = .ok (.if_icmp .le 9, 3) := by decide +kernel
theorem dX4_setLum_206 : decode cX4_setLum 206 = .ok (.sipush 255, 3) := by decide +kernel
theorem dX4_setLum_209 : decode cX4_setLum 209 = .ok (.goto 10, 3) := by decide +kernel
theorem dX4_setLum_212 : decode cX4_setLum 212 = .ok (.aload_n 0, 1) := by decide +kernel
theorem dX4_setLum_213 : decode cX4_setLum 213 = .ok (.getfield 63, 3) := by decide +kernel
theorem dX4_setLum_216 : decode cX4_setLum 216 = .ok (.iload 6, 2) := by decide +kernel
theorem dX4_setLum_218 : decode cX4_setLum 218 = .ok (.iaload, 1) := by decide +kernel
theorem dX4_setLum_219 : decode cX4_setLum 219 = .ok (.iastore, 1) := by decide +kernel
theorem dX4_setLum_220 : decode cX4_setLum 220 = .ok (.iinc 6 1, 3) := by decide +kernel
theorem dX4_setLum_223 : decode cX4_setLum 223 = .ok (.goto (-56), 3) := by decide +kernel
theorem dX4_setLum_226 : decode cX4_setLum 226 = .ok (.return_, 1) := by decide +kernel
theorem dX4_copy_0 : decode cX4_copy 0 = .ok (.iconst 0, 1) := by decide +kernel
theorem dX4_copy_1 : decode cX4_copy 1 = .ok (.istore_n 2, 1) := by decide +kernel
theorem dX4_copy_2 : decode cX4_copy 2 = .ok (.iload_n 2, 1) := by decide +kernel
theorem dX4_copy_3 : decode cX4_copy 3 = .ok (.iconst 3, 1) := by decide +kernel
theorem dX4_copy_4 : decode cX4_copy 4 = .ok (.if_icmp .ge 18, 3) := by decide +kernel
theorem dX4_copy_7 : decode cX4_copy 7 = .ok (.aload_n 0, 1) := by decide +kernel
theorem dX4_copy_8 : decode cX4_copy 8 = .ok (.getfield 63, 3) := by decide +kernel
theorem dX4_copy_11 : decode cX4_copy 11 = .ok (.iload_n 2, 1) := by decide +kernel
theorem dX4_copy_12 : decode cX4_copy 12 = .ok (.aload_n 1, 1) := by decide +kernel
theorem dX4_copy_13 : decode cX4_copy 13 = .ok (.iload_n 2, 1) := by decide +kernel
theorem dX4_copy_14 : decode cX4_copy 14 = .ok (.iaload, 1) := by decide +kernel
theorem dX4_copy_15 : decode cX4_copy 15 = .ok (.iastore, 1) := by decide +kernel
theorem dX4_copy_16 : decode cX4_copy 16 = .ok (.iinc 2 1, 3) := by decide +kernel
theorem dX4_copy_19 : decode cX4_copy 19 = .ok (.goto (-17), 3) := by decide +kernel
theorem dX4_copy_22 : decode cX4_copy 22 = .ok (.return_, 1) := by decide +kernel
theorem dX4_mix_0 : decode cX4_mix 0 = .ok (.iload_n 1, 1) := by decide +kernel
theorem dX4_mix_1 : decode cX4_mix 1 = .ok (.bipush 12, 2) := by decide +kernel
theorem dX4_mix_3 : decode cX4_mix 3 = .ok (.if_icmp .ge 39, 3) := by decide +kernel
theorem dX4_mix_6 : decode cX4_mix 6 = .ok (.iconst 0, 1) := by decide +kernel
theorem dX4_mix_7 : decode cX4_mix 7 = .ok (.istore_n 2, 1) := by decide +kernel
theorem dX4_mix_8 : decode cX4_mix 8 = .ok (.iload_n 2, 1) := by decide +kernel
theorem dX4_mix_9 : decode cX4_mix 9 = .ok (.iconst 3, 1) := by decide +kernel
theorem dX4_mix_10 : decode cX4_mix 10 = .ok (.if_icmp .ge 31, 3) := by decide +kernel
theorem dX4_mix_13 : decode cX4_mix 13 = .ok (.aload_n 0, 1) := by decide +kernel
theorem dX4_mix_14 : decode cX4_mix 14 = .ok (.getfield 60, 3) := by decide +kernel
theorem dX4_mix_17 : decode cX4_mix 17 = .ok (.iload_n 2, 1) := by decide +kernel
theorem dX4_mix_18 : decode cX4_mix 18 = .ok (.iload_n 1, 1) := by decide +kernel
theorem dX4_mix_19 : decode cX4_mix 19 = .ok (.aload_n 0, 1) := by decide +kernel
theorem dX4_mix_20 : decode cX4_mix 20 = .ok (.getfield 57, 3) := by decide +kernel
theorem dX4_mix_23 : decode cX4_mix 23 = .ok (.iload_n 2, 1) := by decide +kernel
theorem dX4_mix_24 : decode cX4_mix 24 = .ok (.iaload, 1) := by decide +kernel
theorem dX4_mix_25 : decode cX4_mix 25 = .ok (.aload_n 0, 1) := by decide +kernel
theorem dX4_mix_26 : decode cX4_mix 26 = .ok (.getfield 54, 3) := by decide +kernel
theorem dX4_mix_29 : decode cX4_mix 29 = .ok (.iload_n 2, 1) := by decide +kernel
theorem dX4_mix_30 : decode cX4_mix 30 = .ok (.iaload, 1) := by decide +kernel
theorem dX4_mix_31 : decode cX4_mix 31 = .ok (.invokestatic 107, 3) := by decide +kernel
theorem dX4_mix_34 : decode cX4_mix 34 = .ok (.iastore, 1) := by decide +kernel
theorem dX4_mix_35 : decode cX4_mix 35 = .ok (.iinc 2 1, 3) := by decide +kernel
theorem dX4_mix_38 : decode cX4_mix 38 = .ok (.goto (-30), 3) := by decide +kernel
theorem dX4_mix_41 : decode cX4_mix 41 = .ok (.return_, 1) := by decide +kernel
theorem dX4_mix_42 : decode cX4_mix 42 = .ok (.iload_n 1, 1) := by decide +kernel
theorem dX4_mix_43 : decode cX4_mix 43 = .ok (.bipush 12, 2) := by decide +kernel
theorem dX4_mix_45 : decode cX4_mix 45 = .ok (.if_icmp .ne 25, 3) := by decide +kernel
theorem dX4_mix_48 : decode cX4_mix 48 = .ok (.aload_n 0, 1) := by decide +kernel
theorem dX4_mix_49 : decode cX4_mix 49 = .ok (.aload_n 0, 1) := by decide +kernel
theorem dX4_mix_50 : decode cX4_mix 50 = .ok (.getfield 54, 3) := by decide +kernel
theorem dX4_mix_53 : decode cX4_mix 53 = .ok (.invokevirtual 111, 3) := by decide +kernel
theorem dX4_mix_56 : decode cX4_mix 56 = .ok (.aload_n 0, 1) := by decide +kernel
theorem dX4_mix_57 : decode cX4_mix 57 = .ok (.aload_n 0, 1) := by decide +kernel
theorem dX4_mix_58 : decode cX4_mix 58 = .ok (.getfield 57, 3) := by decide +kernel
theorem dX4_mix_61 : decode cX4_mix 61 = .ok (.invokestatic 101, 3) := by decide +kernel
theorem dX4_mix_64 : decode cX4_mix 64 = .ok (.invokevirtual 115, 3) := by decide +kernel
theorem dX4_mix_67 : decode cX4_mix 67 = .ok (.goto 56, 3) := by decide +kernel
theorem dX4_mix_70 : decode cX4_mix 70 = .ok (.iload_n 1, 1) := by decide +kernel
theorem dX4_mix_71 : decode cX4_mix 71 = .ok (.bipush 13, 2) := by decide +kernel
theorem dX4_mix_73 : decode cX4_mix 73 = .ok (.if_icmp .ne 25, 3) := by decide +kernel
theorem dX4_mix_76 : decode cX4_mix 76 = .ok (.aload_n 0, 1) := by decide +kernel
theorem dX4_mix_77 : decode cX4_mix 77 = .ok (.aload_n 0, 1) := by decide +kernel
theorem dX4_mix_78 : decode cX4_mix 78 = .ok (.getfield 57, 3) := by decide +kernel
theorem dX4_mix_81 : decode cX4_mix 81 = .ok (.invokevirtual 111, 3) := by decide +kernel
theorem dX4_mix_84 : decode cX4_mix 84 = .ok (.aload_n 0, 1) := by decide +kernel
theorem dX4_mix_85 : decode cX4_mix 85 = .ok (.aload_n 0, 1) := by decide +kernel
theorem dX4_mix_86 : decode cX4_mix 86 = .ok (.getfield 54, 3) := by decide +kernel
theorem dX4_mix_89 : decode cX4_mix 89 = .ok (.invokestatic 101, 3) := by decide +kernel
theorem dX4_mix_92 : decode cX4_mix 92 = .ok (.invokevirtual 115, 3) := by decide +kernel
theorem dX4_mix_95 : decode cX4_mix 95 = .ok (.goto 28, 3) := by decide +kernel
theorem dX4_mix_98 : decode cX4_mix 98 = .ok (.iload_n 1, 1) := by decide +kernel
theorem dX4_mix_99 : decode cX4_mix 99 = .ok (.bipush 14, 2) := by decide +kernel
theorem dX4_mix_101 : decode cX4_mix 101 = .ok (.if_icmp .ne 14, 3) := by decide +kernel
theorem dX4_mix_104 : decode cX4_mix 104 = .ok (.aload_n 0, 1) := by decide +kernel
theorem dX4_mix_105 : decode cX4_mix 105 = .ok (.aload_n 0, 1) := by decide +kernel
theorem dX4_mix_106 : decode cX4_mix 106 = .ok (.getfield 54, 3) := by decide +kernel
theorem dX4_mix_109 : decode cX4_mix 109 = .ok (.invokevirtual 111, 3) := by decide +kernel
theorem dX4_mix_112 : decode cX4_mix 112 = .ok (.goto 11, 3) := by decide +kernel
theorem dX4_mix_115 : decode cX4_mix 115 = .ok (.aload_n 0, 1) := by decide +kernel
theorem dX4_mix_116 : decode cX4_mix 116 = .ok (.aload_n 0, 1) := by decide +kernel
theorem dX4_mix_117 : decode cX4_mix 117 = .ok (.getfield 57, 3) := by decide +kernel
theorem dX4_mix_120 : decode cX4_mix 120 = .ok (.invokevirtual 111, 3) := by decide +kernel
theorem dX4_mix_123 : decode cX4_mix 123 = .ok (.aload_n 0, 1) := by decide +kernel
theorem dX4_mix_124 : decode cX4_mix 124 = .ok (.iload_n 1, 1) := by decide +kernel
theorem dX4_mix_125 : decode cX4_mix 125 = .ok (.bipush 15, 2) := by decide +kernel
theorem dX4_mix_127 : decode cX4_mix 127 = .ok (.if_icmp .ne 13, 3) := by decide +kernel
theorem dX4_mix_130 : decode cX4_mix 130 = .ok (.aload_n 0, 1) := by decide +kernel
theorem dX4_mix_131 : decode cX4_mix 131 = .ok (.getfield 54, 3) := by decide +kernel
theorem dX4_mix_134 : decode cX4_mix 134 = .ok (.invokestatic 104, 3) := by decide +kernel
theorem dX4_mix_137 : decode cX4_mix 137 = .ok (.goto 10, 3) := by decide +kernel
theorem dX4_mix_140 : decode cX4_mix 140 = .ok (.aload_n 0, 1) := by decide +kernel
theorem dX4_mix_141 : decode cX4_mix 141 = .ok (.getfield 57, 3) := by decide +kernel
theorem dX4_mix_144 : decode cX4_mix 144 = .ok (.invokestatic 104, 3) := by decide +kernel
theorem dX4_mix_147 : decode cX4_mix 147 = .ok (.invokevirtual 119, 3) := by decide +kernel
theorem dX4_mix_150 : decode cX4_mix 150 = .ok (.iconst 0, 1) := by decide +kernel
theorem dX4_mix_151 : decode cX4_mix 151 = .ok (.istore_n 2, 1) := by decide +kernel
theorem dX4_mix_152 : decode cX4_mix 152 = .ok (.iload_n 2, 1) := by decide +kernel
theorem dX4_mix_153 : decode cX4_mix 153 = .ok (.iconst 3, 1) := by decide +kernel
theorem dX4_mix_154 : decode cX4_mix 154 = .ok (.if_icmp .ge 21, 3) := by decide +kernel
theorem dX4_mix_157 : decode cX4_mix 157 = .ok (.aload_n 0, 1) := by decide +kernel
theorem dX4_mix_158 : decode cX4_mix 158 = .ok (.getfield 60, 3) := by decide +kernel
theorem dX4_mix_161 : decode cX4_mix 161 = .ok (.iload_n 2, 1) := by decide +kernel
theorem dX4_mix_162 : decode cX4_mix 162 = .ok (.aload_n 0, 1) := by decide +kernel
theorem dX4_mix_163 : decode cX4_mix 163 = .ok (.getfield 63, 3) := by decide +kernel
theorem dX4_mix_166 : decode cX4_mix 166 = .ok (.iload_n 2, 1) := by decide +kernel
theorem dX4_mix_167 : decode cX4_mix 167 = .ok (.iaload, 1) := by decide +kernel
theorem dX4_mix_168 : decode cX4_mix 168 = .ok (.iastore, 1) := by decide +kernel
theorem dX4_mix_169 : decode cX4_mix 169 = .ok (.iinc 2 1, 3) := by decide +kernel
theorem dX4_mix_172 : decode cX4_mix 172 = .ok (.goto (-20), 3) := by decide +kernel
theorem dX4_mix_175 : decode cX4_mix 175 = .ok (.return_, 1) := by decide +kernel
theorem dX4_here_0 : decode cX4_here 0 = .ok (.aload_n 0, 1) := by decide +kernel
theorem dX4_here_1 : decode cX4_here 1 = .ok (.getfield 20, 3) := by decide +kernel
theorem dX4_here_4 : decode cX4_here 4 = .ok (.iconst 1, 1) := by decide +kernel
theorem dX4_here_5 : decode cX4_here 5 = .ok (.isub, 1) := by decide +kernel
theorem dX4_here_6 : decode cX4_here 6 = .ok (.ireturn, 1) := by decide +kernel
theorem dX4_alphaOf_0 : decode cX4_alphaOf 0 = .ok (.aload_n 0, 1) := by decide +kernel
theorem dX4_alphaOf_1 : decode cX4_alphaOf 1 = .ok (.getfield 30, 3) := by decide +kernel
theorem dX4_alphaOf_4 : decode cX4_alphaOf 4 = .ok (.sipush 144, 3) := by decide +kernel
theorem dX4_alphaOf_7 : decode cX4_alphaOf 7 = .ok (.iload_n 1, 1) := by decide +kernel
theorem dX4_alphaOf_8 : decode cX4_alphaOf 8 = .ok (.imul, 1) := by decide +kernel
theorem dX4_alphaOf_9 : decode cX4_alphaOf 9 = .ok (.iload_n 2, 1) := by decide +kernel
theorem dX4_alphaOf_10 : decode cX4_alphaOf 10 = .ok (.iadd, 1) := by decide +kernel
theorem dX4_alphaOf_11 : decode cX4_alphaOf 11 = .ok (.iaload, 1) := by decide +kernel
theorem dX4_alphaOf_12 : decode cX4_alphaOf 12 = .ok (.istore_n 3, 1) := by decide +kernel
theorem dX4_alphaOf_13 : decode cX4_alphaOf 13 = .ok (.aload_n 0, 1) := by decide +kernel
theorem dX4_alphaOf_14 : decode cX4_alphaOf 14 = .ok (.getfield 36, 3) := by decide +kernel
theorem dX4_alphaOf_17 : decode cX4_alphaOf 17 = .ok (.sipush 144, 3) := by decide +kernel
theorem dX4_alphaOf_20 : decode cX4_alphaOf 20 = .ok (.iload_n 1, 1) := by decide +kernel
theorem dX4_alphaOf_21 : decode cX4_alphaOf 21 = .ok (.imul, 1) := by decide +kernel
theorem dX4_alphaOf_22 : decode cX4_alphaOf 22 = .ok (.iload_n 2, 1) := by decide +kernel
theorem dX4_alphaOf_23 : decode cX4_alphaOf 23 = .ok (.iadd, 1) := by decide +kernel
theorem dX4_alphaOf_24 : decode cX4_alphaOf 24 = .ok (.iaload, 1) := by decide +kernel
theorem dX4_alphaOf_25 : decode cX4_alphaOf 25 = .ok (.istore 4, 2) := by decide +kernel
theorem dX4_alphaOf_27 : decode cX4_alphaOf 27 = .ok (.iload_n 3, 1) := by decide +kernel
theorem dX4_alphaOf_28 : decode cX4_alphaOf 28 = .ok (.iload 4, 2) := by decide +kernel
theorem dX4_alphaOf_30 : decode cX4_alphaOf 30 = .ok (.iadd, 1) := by decide +kernel
theorem dX4_alphaOf_31 : decode cX4_alphaOf 31 = .ok (.iload_n 3, 1) := by decide +kernel
theorem dX4_alphaOf_32 : decode cX4_alphaOf 32 = .ok (.iload 4, 2) := by decide +kernel
theorem dX4_alphaOf_34 : decode cX4_alphaOf 34 = .ok (.invokestatic 75, 3) := by decide +kernel
theorem dX4_alphaOf_37 : decode cX4_alphaOf 37 = .ok (.isub, 1) := by decide +kernel
theorem dX4_alphaOf_38 : decode cX4_alphaOf 38 = .ok (.ireturn, 1) := by decide +kernel
theorem dX4_leaves_0 : decode cX4_leaves 0 = .ok (.aload_n 0, 1) := by decide +kernel
theorem dX4_leaves_1 : decode cX4_leaves 1 = .ok (.getfield 122, 3) := by decide +kernel
theorem dX4_leaves_4 : decode cX4_leaves 4 = .ok (.ifCond .eq 16, 3) := by decide +kernel
theorem dX4_leaves_7 : decode cX4_leaves 7 = .ok (.iload_n 1, 1) := by decide +kernel
theorem dX4_leaves_8 : decode cX4_leaves 8 = .ok (.aload_n 0, 1) := by decide +kernel
theorem dX4_leaves_9 : decode cX4_leaves 9 = .ok (.getfield 42, 3) := by decide +kernel
theorem dX4_leaves_12 : decode cX4_leaves 12 = .ok (.iload_n 2, 1) := by decide +kernel
theorem dX4_leaves_13 : decode cX4_leaves 13 = .ok (.iaload, 1) := by decide +kernel
theorem dX4_leaves_14 : decode cX4_leaves 14 = .ok (.invokestatic 75, 3) := by decide +kernel
theorem dX4_leaves_17 : decode cX4_leaves 17 = .ok (.goto 4, 3) := by decide +kernel
theorem dX4_leaves_20 : decode cX4_leaves 20 = .ok (.iload_n 1, 1) := by decide +kernel
theorem dX4_leaves_21 : decode cX4_leaves 21 = .ok (.ireturn, 1) := by decide +kernel
theorem dX4_put_0 : decode cX4_put 0 = .ok (.iload 4, 2) := by decide +kernel
theorem dX4_put_2 : decode cX4_put 2 = .ok (.ifCond .ne 4, 3) := by decide +kernel
theorem dX4_put_5 : decode cX4_put 5 = .ok (.return_, 1) := by decide +kernel
theorem dX4_put_6 : decode cX4_put 6 = .ok (.sipush 144, 3) := by decide +kernel
theorem dX4_put_9 : decode cX4_put 9 = .ok (.iload_n 1, 1) := by decide +kernel
theorem dX4_put_10 : decode cX4_put 10 = .ok (.imul, 1) := by decide +kernel
theorem dX4_put_11 : decode cX4_put 11 = .ok (.iload_n 2, 1) := by decide +kernel
theorem dX4_put_12 : decode cX4_put 12 = .ok (.iadd, 1) := by decide +kernel
theorem dX4_put_13 : decode cX4_put 13 = .ok (.istore 6, 2) := by decide +kernel
theorem dX4_put_15 : decode cX4_put 15 = .ok (.aload_n 0, 1) := by decide +kernel
theorem dX4_put_16 : decode cX4_put 16 = .ok (.iload_n 1, 1) := by decide +kernel
theorem dX4_put_17 : decode cX4_put 17 = .ok (.iload_n 2, 1) := by decide +kernel
theorem dX4_put_18 : decode cX4_put 18 = .ok (.invokevirtual 126, 3) := by decide +kernel
theorem dX4_put_21 : decode cX4_put 21 = .ok (.istore 7, 2) := by decide +kernel
theorem dX4_put_23 : decode cX4_put 23 = .ok (.aload_n 0, 1) := by decide +kernel
theorem dX4_put_24 : decode cX4_put 24 = .ok (.getfield 23, 3) := by decide +kernel
theorem dX4_put_27 : decode cX4_put 27 = .ok (.iload_n 1, 1) := by decide +kernel
theorem dX4_put_28 : decode cX4_put 28 = .ok (.baload, 1) := by decide +kernel
theorem dX4_put_29 : decode cX4_put 29 = .ok (.ifCond .eq 13, 3) := by decide +kernel
theorem dX4_put_32 : decode cX4_put 32 = .ok (.aload_n 0, 1) := by decide +kernel
theorem dX4_put_33 : decode cX4_put 33 = .ok (.getfield 30, 3) := by decide +kernel
theorem dX4_put_36 : decode cX4_put 36 = .ok (.iload 6, 2) := by decide +kernel
theorem dX4_put_38 : decode cX4_put 38 = .ok (.iaload, 1) := by decide +kernel
theorem dX4_put_39 : decode cX4_put 39 = .ok (.goto 5, 3) := by decide +kernel
theorem dX4_put_42 : decode cX4_put 42 = .ok (.iload 7, 2) := by decide +kernel
theorem dX4_put_44 : decode cX4_put 44 = .ok (.istore 8, 2) := by decide +kernel
theorem dX4_put_46 : decode cX4_put 46 = .ok (.aload_n 0, 1) := by decide +kernel
theorem dX4_put_47 : decode cX4_put 47 = .ok (.getfield 23, 3) := by decide +kernel
theorem dX4_put_50 : decode cX4_put 50 = .ok (.iload_n 1, 1) := by decide +kernel
theorem dX4_put_51 : decode cX4_put 51 = .ok (.baload, 1) := by decide +kernel
theorem dX4_put_52 : decode cX4_put 52 = .ok (.ifCond .eq 7, 3) := by decide +kernel
theorem dX4_put_55 : decode cX4_put 55 = .ok (.iconst 0, 1) := by decide +kernel
theorem dX4_put_56 : decode cX4_put 56 = .ok (.goto 10, 3) := by decide +kernel
theorem dX4_put_59 : decode cX4_put 59 = .ok (.aload_n 0, 1) := by decide +kernel
theorem dX4_put_60 : decode cX4_put 60 = .ok (.getfield 36, 3) := by decide +kernel
theorem dX4_put_63 : decode cX4_put 63 = .ok (.iload 6, 2) := by decide +kernel
theorem dX4_put_65 : decode cX4_put 65 = .ok (.iaload, 1) := by decide +kernel
theorem dX4_put_66 : decode cX4_put 66 = .ok (.istore 9, 2) := by decide +kernel
theorem dX4_put_68 : decode cX4_put 68 = .ok (.iconst 0, 1) := by decide +kernel
theorem dX4_put_69 : decode cX4_put 69 = .ok (.istore 10, 2) := by decide +kernel
theorem dX4_put_71 : decode cX4_put 71 = .ok (.iload 10, 2) := by decide +kernel
theorem dX4_put_73 : decode cX4_put 73 = .ok (.iconst 3, 1) := by decide +kernel
theorem dX4_put_74 : decode cX4_put 74 = .ok (.if_icmp .ge 52, 3) := by decide +kernel
theorem dX4_put_77 : decode cX4_put 77 = .ok (.aload_n 0, 1) := by decide +kernel
theorem dX4_put_78 : decode cX4_put 78 = .ok (.getfield 57, 3) := by decide +kernel
theorem dX4_put_81 : decode cX4_put 81 = .ok (.iload 10, 2) := by decide +kernel
theorem dX4_put_83 : decode cX4_put 83 = .ok (.aload_n 0, 1) := by decide +kernel
theorem dX4_put_84 : decode cX4_put 84 = .ok (.getfield 23, 3) := by decide +kernel
theorem dX4_put_87 : decode cX4_put 87 = .ok (.iload_n 1, 1) := by decide +kernel
theorem dX4_put_88 : decode cX4_put 88 = .ok (.baload, 1) := by decide +kernel
theorem dX4_put_89 : decode cX4_put 89 = .ok (.ifCond .eq 18, 3) := by decide +kernel
theorem dX4_put_92 : decode cX4_put 92 = .ok (.aload_n 0, 1) := by decide +kernel
theorem dX4_put_93 : decode cX4_put 93 = .ok (.getfield 27, 3) := by decide +kernel
theorem dX4_put_96 : decode cX4_put 96 = .ok (.iconst 3, 1) := by decide +kernel
theorem dX4_put_97 : decode cX4_put 97 = .ok (.iload 6, 2) := by decide +kernel
theorem dX4_put_99 : decode cX4_put 99 = .ok (.imul, 1) := by decide +kernel
theorem dX4_put_100 : decode cX4_put 100 = .ok (.iload 10, 2) := by decide +kernel
theorem dX4_put_102 : decode cX4_put 102 = .ok (.iadd, 1) := by decide +kernel
theorem dX4_put_103 : decode cX4_put 103 = .ok (.iaload, 1) := by decide +kernel
theorem dX4_put_104 : decode cX4_put 104 = .ok (.goto 15, 3) := by decide +kernel
theorem dX4_put_107 : decode cX4_put 107 = .ok (.aload_n 0, 1) := by decide +kernel
theorem dX4_put_108 : decode cX4_put 108 = .ok (.getfield 33, 3) := by decide +kernel
theorem dX4_put_111 : decode cX4_put 111 = .ok (.iconst 3, 1) := by decide +kernel
theorem dX4_put_112 : decode cX4_put 112 = .ok (.iload 6, 2) := by decide +kernel
theorem dX4_put_114 : decode cX4_put 114 = .ok (.imul, 1) := by decide +kernel
theorem dX4_put_115 : decode cX4_put 115 = .ok (.iload 10, 2) := by decide +kernel
theorem dX4_put_117 : decode cX4_put 117 = .ok (.iadd, 1) := by decide +kernel
theorem dX4_put_118 : decode cX4_put 118 = .ok (.iaload, 1) := by decide +kernel
theorem dX4_put_119 : decode cX4_put 119 = .ok (.iastore, 1) := by decide +kernel
theorem dX4_put_120 : decode cX4_put 120 = .ok (.iinc 10 1, 3) := by decide +kernel
theorem dX4_put_123 : decode cX4_put 123 = .ok (.goto (-52), 3) := by decide +kernel
theorem dX4_put_126 : decode cX4_put 126 = .ok (.aload_n 0, 1) := by decide +kernel
theorem dX4_put_127 : decode cX4_put 127 = .ok (.iload_n 3, 1) := by decide +kernel
theorem dX4_put_128 : decode cX4_put 128 = .ok (.invokevirtual 129, 3) := by decide +kernel
theorem dX4_put_131 : decode cX4_put 131 = .ok (.aload_n 0, 1) := by decide +kernel
theorem dX4_put_132 : decode cX4_put 132 = .ok (.getfield 36, 3) := by decide +kernel
theorem dX4_put_135 : decode cX4_put 135 = .ok (.iload 6, 2) := by decide +kernel
theorem dX4_put_137 : decode cX4_put 137 = .ok (.sipush 255, 3) := by decide +kernel
theorem dX4_put_140 : decode cX4_put 140 = .ok (.iload 4, 2) := by decide +kernel
theorem dX4_put_142 : decode cX4_put 142 = .ok (.isub, 1) := by decide +kernel
theorem dX4_put_143 : decode cX4_put 143 = .ok (.aload_n 0, 1) := by decide +kernel
theorem dX4_put_144 : decode cX4_put 144 = .ok (.getfield 36, 3) := by decide +kernel
theorem dX4_put_147 : decode cX4_put 147 = .ok (.iload 6, 2) := by decide +kernel
theorem dX4_put_149 : decode cX4_put 149 = .ok (.iaload, 1) := by decide +kernel
theorem dX4_put_150 : decode cX4_put 150 = .ok (.imul, 1) := by decide +kernel
theorem dX4_put_151 : decode cX4_put 151 = .ok (.iload 4, 2) := by decide +kernel
theorem dX4_put_153 : decode cX4_put 153 = .ok (.iload 5, 2) := by decide +kernel
theorem dX4_put_155 : decode cX4_put 155 = .ok (.isub, 1) := by decide +kernel
theorem dX4_put_156 : decode cX4_put 156 = .ok (.iload 9, 2) := by decide +kernel
theorem dX4_put_158 : decode cX4_put 158 = .ok (.imul, 1) := by decide +kernel
theorem dX4_put_159 : decode cX4_put 159 = .ok (.iadd, 1) := by decide +kernel
theorem dX4_put_160 : decode cX4_put 160 = .ok (.sipush 255, 3) := by decide +kernel
theorem dX4_put_163 : decode cX4_put 163 = .ok (.iload 5, 2) := by decide +kernel
theorem dX4_put_165 : decode cX4_put 165 = .ok (.imul, 1) := by decide +kernel
theorem dX4_put_166 : decode cX4_put 166 = .ok (.iadd, 1) := by decide +kernel
theorem dX4_put_167 : decode cX4_put 167 = .ok (.bipush 127, 2) := by decide +kernel
theorem dX4_put_169 : decode cX4_put 169 = .ok (.iadd, 1) := by decide +kernel
theorem dX4_put_170 : decode cX4_put 170 = .ok (.sipush 255, 3) := by decide +kernel
theorem dX4_put_173 : decode cX4_put 173 = .ok (.idiv, 1) := by decide +kernel
theorem dX4_put_174 : decode cX4_put 174 = .ok (.iastore, 1) := by decide +kernel
theorem dX4_put_175 : decode cX4_put 175 = .ok (.aload_n 0, 1) := by decide +kernel
theorem dX4_put_176 : decode cX4_put 176 = .ok (.getfield 39, 3) := by decide +kernel
theorem dX4_put_179 : decode cX4_put 179 = .ok (.iload 6, 2) := by decide +kernel
theorem dX4_put_181 : decode cX4_put 181 = .ok (.aload_n 0, 1) := by decide +kernel
theorem dX4_put_182 : decode cX4_put 182 = .ok (.getfield 39, 3) := by decide +kernel
theorem dX4_put_185 : decode cX4_put 185 = .ok (.iload 6, 2) := by decide +kernel
theorem dX4_put_187 : decode cX4_put 187 = .ok (.iaload, 1) := by decide +kernel
theorem dX4_put_188 : decode cX4_put 188 = .ok (.iload 4, 2) := by decide +kernel
theorem dX4_put_190 : decode cX4_put 190 = .ok (.iadd, 1) := by decide +kernel
theorem dX4_put_191 : decode cX4_put 191 = .ok (.aload_n 0, 1) := by decide +kernel
theorem dX4_put_192 : decode cX4_put 192 = .ok (.getfield 39, 3) := by decide +kernel
theorem dX4_put_195 : decode cX4_put 195 = .ok (.iload 6, 2) := by decide +kernel
theorem dX4_put_197 : decode cX4_put 197 = .ok (.iaload, 1) := by decide +kernel
theorem dX4_put_198 : decode cX4_put 198 = .ok (.iload 4, 2) := by decide +kernel
theorem dX4_put_200 : decode cX4_put 200 = .ok (.invokestatic 75, 3) := by decide +kernel
theorem dX4_put_203 : decode cX4_put 203 = .ok (.isub, 1) := by decide +kernel
theorem dX4_put_204 : decode cX4_put 204 = .ok (.iastore, 1) := by decide +kernel
theorem dX4_put_205 : decode cX4_put 205 = .ok (.aload_n 0, 1) := by decide +kernel
theorem dX4_put_206 : decode cX4_put 206 = .ok (.iload_n 1, 1) := by decide +kernel
theorem dX4_put_207 : decode cX4_put 207 = .ok (.iload_n 2, 1) := by decide +kernel
theorem dX4_put_208 : decode cX4_put 208 = .ok (.invokevirtual 126, 3) := by decide +kernel
theorem dX4_put_211 : decode cX4_put 211 = .ok (.istore 10, 2) := by decide +kernel
theorem dX4_put_213 : decode cX4_put 213 = .ok (.iconst 0, 1) := by decide +kernel
theorem dX4_put_214 : decode cX4_put 214 = .ok (.istore 11, 2) := by decide +kernel
theorem dX4_put_216 : decode cX4_put 216 = .ok (.iload 11, 2) := by decide +kernel
theorem dX4_put_218 : decode cX4_put 218 = .ok (.iconst 3, 1) := by decide +kernel
theorem dX4_put_219 : decode cX4_put 219 = .ok (.if_icmp .ge 180, 3) := by decide +kernel
theorem dX4_put_222 : decode cX4_put 222 = .ok (.iload 10, 2) := by decide +kernel
theorem dX4_put_224 : decode cX4_put 224 = .ok (.ifCond .le 175, 3) := by decide +kernel
theorem dX4_put_227 : decode cX4_put 227 = .ok (.aload_n 0, 1) := by decide +kernel
theorem dX4_put_228 : decode cX4_put 228 = .ok (.getfield 51, 3) := by decide +kernel
theorem dX4_put_231 : decode cX4_put 231 = .ok (.iload 11, 2) := by decide +kernel
theorem dX4_put_233 : decode cX4_put 233 = .ok (.baload, 1) := by decide +kernel
theorem dX4_put_234 : decode cX4_put 234 = .ok (.ifCond .eq 13, 3) := by decide +kernel
theorem dX4_put_237 : decode cX4_put 237 = .ok (.aload_n 0, 1) := by decide +kernel
theorem dX4_put_238 : decode cX4_put 238 = .ok (.getfield 57, 3) := by decide +kernel
theorem dX4_put_241 : decode cX4_put 241 = .ok (.iload 11, 2) := by decide +kernel
theorem dX4_put_243 : decode cX4_put 243 = .ok (.iaload, 1) := by decide +kernel
theorem dX4_put_244 : decode cX4_put 244 = .ok (.goto 10, 3) := by decide +kernel
theorem dX4_put_247 : decode cX4_put 247 = .ok (.aload_n 0, 1) := by decide +kernel
theorem dX4_put_248 : decode cX4_put 248 = .ok (.getfield 54, 3) := by decide +kernel
theorem dX4_put_251 : decode cX4_put 251 = .ok (.iload 11, 2) := by decide +kernel
theorem dX4_put_253 : decode cX4_put 253 = .ok (.iaload, 1) := by decide +kernel
theorem dX4_put_254 : decode cX4_put 254 = .ok (.istore 12, 2) := by decide +kernel
theorem dX4_put_256 : decode cX4_put 256 = .ok (.aload_n 0, 1) := by decide +kernel
theorem dX4_put_257 : decode cX4_put 257 = .ok (.getfield 51, 3) := by decide +kernel
theorem dX4_put_260 : decode cX4_put 260 = .ok (.iload 11, 2) := by decide +kernel
theorem dX4_put_262 : decode cX4_put 262 = .ok (.baload, 1) := by decide +kernel
theorem dX4_put_263 : decode cX4_put 263 = .ok (.ifCond .eq 13, 3) := by decide +kernel
theorem dX4_put_266 : decode cX4_put 266 = .ok (.aload_n 0, 1) := by decide +kernel
theorem dX4_put_267 : decode cX4_put 267 = .ok (.getfield 57, 3) := by decide +kernel
theorem dX4_put_270 : decode cX4_put 270 = .ok (.iload 11, 2) := by decide +kernel
theorem dX4_put_272 : decode cX4_put 272 = .ok (.iaload, 1) := by decide +kernel
theorem dX4_put_273 : decode cX4_put 273 = .ok (.goto 10, 3) := by decide +kernel
theorem dX4_put_276 : decode cX4_put 276 = .ok (.aload_n 0, 1) := by decide +kernel
theorem dX4_put_277 : decode cX4_put 277 = .ok (.getfield 60, 3) := by decide +kernel
theorem dX4_put_280 : decode cX4_put 280 = .ok (.iload 11, 2) := by decide +kernel
theorem dX4_put_282 : decode cX4_put 282 = .ok (.iaload, 1) := by decide +kernel
theorem dX4_put_283 : decode cX4_put 283 = .ok (.istore 13, 2) := by decide +kernel
theorem dX4_put_285 : decode cX4_put 285 = .ok (.sipush 255, 3) := by decide +kernel
theorem dX4_put_288 : decode cX4_put 288 = .ok (.iload 4, 2) := by decide +kernel
theorem dX4_put_290 : decode cX4_put 290 = .ok (.isub, 1) := by decide +kernel
theorem dX4_put_291 : decode cX4_put 291 = .ok (.iload 7, 2) := by decide +kernel
theorem dX4_put_293 : decode cX4_put 293 = .ok (.imul, 1) := by decide +kernel
theorem dX4_put_294 : decode cX4_put 294 = .ok (.aload_n 0, 1) := by decide +kernel
theorem dX4_put_295 : decode cX4_put 295 = .ok (.getfield 33, 3) := by decide +kernel
theorem dX4_put_298 : decode cX4_put 298 = .ok (.iconst 3, 1) := by decide +kernel
theorem dX4_put_299 : decode cX4_put 299 = .ok (.iload 6, 2) := by decide +kernel
theorem dX4_put_301 : decode cX4_put 301 = .ok (.imul, 1) := by decide +kernel
theorem dX4_put_302 : decode cX4_put 302 = .ok (.iload 11, 2) := by decide +kernel
theorem dX4_put_304 : decode cX4_put 304 = .ok (.iadd, 1) := by decide +kernel
theorem dX4_put_305 : decode cX4_put 305 = .ok (.iaload, 1) := by decide +kernel
theorem dX4_put_306 : decode cX4_put 306 = .ok (.imul, 1) := by decide +kernel
theorem dX4_put_307 : decode cX4_put 307 = .ok (.iload 4, 2) := by decide +kernel
theorem dX4_put_309 : decode cX4_put 309 = .ok (.iload 5, 2) := by decide +kernel
theorem dX4_put_311 : decode cX4_put 311 = .ok (.isub, 1) := by decide +kernel
theorem dX4_put_312 : decode cX4_put 312 = .ok (.iload 8, 2) := by decide +kernel
theorem dX4_put_314 : decode cX4_put 314 = .ok (.imul, 1) := by decide +kernel
theorem dX4_put_315 : decode cX4_put 315 = .ok (.aload_n 0, 1) := by decide +kernel
theorem dX4_put_316 : decode cX4_put 316 = .ok (.getfield 57, 3) := by decide +kernel
theorem dX4_put_319 : decode cX4_put 319 = .ok (.iload 11, 2) := by decide +kernel
theorem dX4_put_321 : decode cX4_put 321 = .ok (.iaload, 1) := by decide +kernel
theorem dX4_put_322 : decode cX4_put 322 = .ok (.imul, 1) := by decide +kernel
theorem dX4_put_323 : decode cX4_put 323 = .ok (.iadd, 1) := by decide +kernel
theorem dX4_put_324 : decode cX4_put 324 = .ok (.iload 5, 2) := by decide +kernel
theorem dX4_put_326 : decode cX4_put 326 = .ok (.sipush 255, 3) := by decide +kernel
theorem dX4_put_329 : decode cX4_put 329 = .ok (.iload 8, 2) := by decide +kernel
theorem dX4_put_331 : decode cX4_put 331 = .ok (.isub, 1) := by decide +kernel
theorem dX4_put_332 : decode cX4_put 332 = .ok (.iload 12, 2) := by decide +kernel
theorem dX4_put_334 : decode cX4_put 334 = .ok (.imul, 1) := by decide +kernel
theorem dX4_put_335 : decode cX4_put 335 = .ok (.iload 8, 2) := by decide +kernel
theorem dX4_put_337 : decode cX4_put 337 = .ok (.iload 13, 2) := by decide +kernel
theorem dX4_put_339 : decode cX4_put 339 = .ok (.imul, 1) := by decide +kernel
theorem dX4_put_340 : decode cX4_put 340 = .ok (.iadd, 1) := by decide +kernel
theorem dX4_put_341 : decode cX4_put 341 = .ok (.imul, 1) := by decide +kernel
theorem dX4_put_342 : decode cX4_put 342 = .ok (.iadd, 1) := by decide +kernel
theorem dX4_put_343 : decode cX4_put 343 = .ok (.istore 14, 2) := by decide +kernel
theorem dX4_put_345 : decode cX4_put 345 = .ok (.iload 14, 2) := by decide +kernel
theorem dX4_put_347 : decode cX4_put 347 = .ok (.sipush 255, 3) := by decide +kernel
theorem dX4_put_350 : decode cX4_put 350 = .ok (.iload 10, 2) := by decide +kernel
theorem dX4_put_352 : decode cX4_put 352 = .ok (.imul, 1) := by decide +kernel
theorem dX4_put_353 : decode cX4_put 353 = .ok (.iconst 2, 1) := by decide +kernel
theorem dX4_put_354 : decode cX4_put 354 = .ok (.idiv, 1) := by decide +kernel
theorem dX4_put_355 : decode cX4_put 355 = .ok (.iadd, 1) := by decide +kernel
theorem dX4_put_356 : decode cX4_put 356 = .ok (.sipush 255, 3) := by decide +kernel
theorem dX4_put_359 : decode cX4_put 359 = .ok (.iload 10, 2) := by decide +kernel
theorem dX4_put_361 : decode cX4_put 361 = .ok (.imul, 1) := by decide +kernel
theorem dX4_put_362 : decode cX4_put 362 = .ok (.idiv, 1) := by decide +kernel
theorem dX4_put_363 : decode cX4_put 363 = .ok (.istore 15, 2) := by decide +kernel
theorem dX4_put_365 : decode cX4_put 365 = .ok (.aload_n 0, 1) := by decide +kernel
theorem dX4_put_366 : decode cX4_put 366 = .ok (.getfield 33, 3) := by decide +kernel
theorem dX4_put_369 : decode cX4_put 369 = .ok (.iconst 3, 1) := by decide +kernel
theorem dX4_put_370 : decode cX4_put 370 = .ok (.iload 6, 2) := by decide +kernel
theorem dX4_put_372 : decode cX4_put 372 = .ok (.imul, 1) := by decide +kernel
theorem dX4_put_373 : decode cX4_put 373 = .ok (.iload 11, 2) := by decide +kernel
theorem dX4_put_375 : decode cX4_put 375 = .ok (.iadd, 1) := by decide +kernel
theorem dX4_put_376 : decode cX4_put 376 = .ok (.iload 15, 2) := by decide +kernel
theorem dX4_put_378 : decode cX4_put 378 = .ok (.sipush 255, 3) := by decide +kernel
theorem dX4_put_381 : decode cX4_put 381 = .ok (.if_icmp .le 9, 3) := by decide +kernel
theorem dX4_put_384 : decode cX4_put 384 = .ok (.sipush 255, 3) := by decide +kernel
theorem dX4_put_387 : decode cX4_put 387 = .ok (.goto 5, 3) := by decide +kernel
theorem dX4_put_390 : decode cX4_put 390 = .ok (.iload 15, 2) := by decide +kernel
theorem dX4_put_392 : decode cX4_put 392 = .ok (.iastore, 1) := by decide +kernel
theorem dX4_put_393 : decode cX4_put 393 = .ok (.iinc 11 1, 3) := by decide +kernel
theorem dX4_put_396 : decode cX4_put 396 = .ok (.goto (-180), 3) := by decide +kernel
theorem dX4_put_399 : decode cX4_put 399 = .ok (.return_, 1) := by decide +kernel
theorem dX4_result_0 : decode cX4_result 0 = .ok (.sipush 144, 3) := by decide +kernel
theorem dX4_result_3 : decode cX4_result 3 = .ok (.iload_n 1, 1) := by decide +kernel
theorem dX4_result_4 : decode cX4_result 4 = .ok (.imul, 1) := by decide +kernel
theorem dX4_result_5 : decode cX4_result 5 = .ok (.iload_n 2, 1) := by decide +kernel
theorem dX4_result_6 : decode cX4_result 6 = .ok (.iadd, 1) := by decide +kernel
theorem dX4_result_7 : decode cX4_result 7 = .ok (.istore_n 3, 1) := by decide +kernel
theorem dX4_result_8 : decode cX4_result 8 = .ok (.aload_n 0, 1) := by decide +kernel
theorem dX4_result_9 : decode cX4_result 9 = .ok (.getfield 36, 3) := by decide +kernel
theorem dX4_result_12 : decode cX4_result 12 = .ok (.iload_n 3, 1) := by decide +kernel
theorem dX4_result_13 : decode cX4_result 13 = .ok (.iaload, 1) := by decide +kernel
theorem dX4_result_14 : decode cX4_result 14 = .ok (.istore 4, 2) := by decide +kernel
theorem dX4_result_16 : decode cX4_result 16 = .ok (.aload_n 0, 1) := by decide +kernel
theorem dX4_result_17 : decode cX4_result 17 = .ok (.getfield 30, 3) := by decide +kernel
theorem dX4_result_20 : decode cX4_result 20 = .ok (.iload_n 3, 1) := by decide +kernel
theorem dX4_result_21 : decode cX4_result 21 = .ok (.iaload, 1) := by decide +kernel
theorem dX4_result_22 : decode cX4_result 22 = .ok (.istore 5, 2) := by decide +kernel
theorem dX4_result_24 : decode cX4_result 24 = .ok (.iconst 0, 1) := by decide +kernel
theorem dX4_result_25 : decode cX4_result 25 = .ok (.istore 6, 2) := by decide +kernel
theorem dX4_result_27 : decode cX4_result 27 = .ok (.iload 6, 2) := by decide +kernel
theorem dX4_result_29 : decode cX4_result 29 = .ok (.iconst 3, 1) := by decide +kernel
theorem dX4_result_30 : decode cX4_result 30 = .ok (.if_icmp .ge 102, 3) := by decide +kernel
theorem dX4_result_33 : decode cX4_result 33 = .ok (.aload_n 0, 1) := by decide +kernel
theorem dX4_result_34 : decode cX4_result 34 = .ok (.getfield 33, 3) := by decide +kernel
theorem dX4_result_37 : decode cX4_result 37 = .ok (.iconst 3, 1) := by decide +kernel
theorem dX4_result_38 : decode cX4_result 38 = .ok (.iload_n 3, 1) := by decide +kernel
theorem dX4_result_39 : decode cX4_result 39 = .ok (.imul, 1) := by decide +kernel
theorem dX4_result_40 : decode cX4_result 40 = .ok (.iload 6, 2) := by decide +kernel
theorem dX4_result_42 : decode cX4_result 42 = .ok (.iadd, 1) := by decide +kernel
theorem dX4_result_43 : decode cX4_result 43 = .ok (.iaload, 1) := by decide +kernel
theorem dX4_result_44 : decode cX4_result 44 = .ok (.istore 7, 2) := by decide +kernel
theorem dX4_result_46 : decode cX4_result 46 = .ok (.iload 4, 2) := by decide +kernel
theorem dX4_result_48 : decode cX4_result 48 = .ok (.ifCond .le 43, 3) := by decide +kernel
theorem dX4_result_51 : decode cX4_result 51 = .ok (.iload 7, 2) := by decide +kernel
theorem dX4_result_53 : decode cX4_result 53 = .ok (.iload 7, 2) := by decide +kernel
theorem dX4_result_55 : decode cX4_result 55 = .ok (.aload_n 0, 1) := by decide +kernel
theorem dX4_result_56 : decode cX4_result 56 = .ok (.getfield 27, 3) := by decide +kernel
theorem dX4_result_59 : decode cX4_result 59 = .ok (.iconst 3, 1) := by decide +kernel
theorem dX4_result_60 : decode cX4_result 60 = .ok (.iload_n 3, 1) := by decide +kernel
theorem dX4_result_61 : decode cX4_result 61 = .ok (.imul, 1) := by decide +kernel
theorem dX4_result_62 : decode cX4_result 62 = .ok (.iload 6, 2) := by decide +kernel
theorem dX4_result_64 : decode cX4_result 64 = .ok (.iadd, 1) := by decide +kernel
theorem dX4_result_65 : decode cX4_result 65 = .ok (.iaload, 1) := by decide +kernel
theorem dX4_result_66 : decode cX4_result 66 = .ok (.isub, 1) := by decide +kernel
theorem dX4_result_67 : decode cX4_result 67 = .ok (.iload 5, 2) := by decide +kernel
theorem dX4_result_69 : decode cX4_result 69 = .ok (.sipush 255, 3) := by decide +kernel
theorem dX4_result_72 : decode cX4_result 72 = .ok (.imul, 1) := by decide +kernel
theorem dX4_result_73 : decode cX4_result 73 = .ok (.iload 5, 2) := by decide +kernel
theorem dX4_result_75 : decode cX4_result 75 = .ok (.iload 4, 2) := by decide +kernel
theorem dX4_result_77 : decode cX4_result 77 = .ok (.imul, 1) := by decide +kernel
theorem dX4_result_78 : decode cX4_result 78 = .ok (.isub, 1) := by decide +kernel
theorem dX4_result_79 : decode cX4_result 79 = .ok (.imul, 1) := by decide +kernel
theorem dX4_result_80 : decode cX4_result 80 = .ok (.sipush 255, 3) := by decide +kernel
theorem dX4_result_83 : decode cX4_result 83 = .ok (.iload 4, 2) := by decide +kernel
theorem dX4_result_85 : decode cX4_result 85 = .ok (.imul, 1) := by decide +kernel
theorem dX4_result_86 : decode cX4_result 86 = .ok (.idiv, 1) := by decide +kernel
theorem dX4_result_87 : decode cX4_result 87 = .ok (.iadd, 1) := by decide +kernel
theorem dX4_result_88 : decode cX4_result 88 = .ok (.goto 4, 3) := by decide +kernel
theorem dX4_result_91 : decode cX4_result 91 = .ok (.iconst 0, 1) := by decide +kernel
theorem dX4_result_92 : decode cX4_result 92 = .ok (.istore 8, 2) := by decide +kernel
theorem dX4_result_94 : decode cX4_result 94 = .ok (.aload_n 0, 1) := by decide +kernel
theorem dX4_result_95 : decode cX4_result 95 = .ok (.getfield 54, 3) := by decide +kernel
theorem dX4_result_98 : decode cX4_result 98 = .ok (.iload 6, 2) := by decide +kernel
theorem dX4_result_100 : decode cX4_result 100 = .ok (.iload 8, 2) := by decide +kernel
theorem dX4_result_102 : decode cX4_result 102 = .ok (.ifCond .ge 7, 3) := by decide +kernel
theorem dX4_result_105 : decode cX4_result 105 = .ok (.iconst 0, 1) := by decide +kernel
theorem dX4_result_106 : decode cX4_result 106 = .ok (.goto 19, 3) := by decide +kernel
theorem dX4_result_109 : decode cX4_result 109 = .ok (.iload 8, 2) := by decide +kernel
theorem dX4_result_111 : decode cX4_result 111 = .ok (.sipush 255, 3) := by decide +kernel
theorem dX4_result_114 : decode cX4_result 114 = .ok (.if_icmp .le 9, 3) := by decide +kernel
theorem dX4_result_117 : decode cX4_result 117 = .ok (.sipush 255, 3) := by decide +kernel
theorem dX4_result_120 : decode cX4_result 120 = .ok (.goto 5, 3) := by decide +kernel
theorem dX4_result_123 : decode cX4_result 123 = .ok (.iload 8, 2) := by decide +kernel
theorem dX4_result_125 : decode cX4_result 125 = .ok (.iastore, 1) := by decide +kernel
theorem dX4_result_126 : decode cX4_result 126 = .ok (.iinc 6 1, 3) := by decide +kernel
theorem dX4_result_129 : decode cX4_result 129 = .ok (.goto (-102), 3) := by decide +kernel
theorem dX4_result_132 : decode cX4_result 132 = .ok (.return_, 1) := by decide +kernel
theorem dX4_pointAt_0 : decode cX4_pointAt 0 = .ok (.bipush 12, 2) := by decide +kernel
theorem dX4_pointAt_2 : decode cX4_pointAt 2 = .ok (.iload_n 2, 1) := by decide +kernel
theorem dX4_pointAt_3 : decode cX4_pointAt 3 = .ok (.imul, 1) := by decide +kernel
theorem dX4_pointAt_4 : decode cX4_pointAt 4 = .ok (.iload_n 1, 1) := by decide +kernel
theorem dX4_pointAt_5 : decode cX4_pointAt 5 = .ok (.iadd, 1) := by decide +kernel
theorem dX4_pointAt_6 : decode cX4_pointAt 6 = .ok (.ireturn, 1) := by decide +kernel
theorem dX4_told_0 : decode cX4_told 0 = .ok (.aload_n 0, 1) := by decide +kernel
theorem dX4_told_1 : decode cX4_told 1 = .ok (.iload_n 1, 1) := by decide +kernel
theorem dX4_told_2 : decode cX4_told 2 = .ok (.ifCond .lt 8, 3) := by decide +kernel
theorem dX4_told_5 : decode cX4_told 5 = .ok (.iload_n 1, 1) := by decide +kernel
theorem dX4_told_6 : decode cX4_told 6 = .ok (.iconst 5, 1) := by decide +kernel
theorem dX4_told_7 : decode cX4_told 7 = .ok (.if_icmp .le 7, 3) := by decide +kernel
theorem dX4_told_10 : decode cX4_told 10 = .ok (.iconst 1, 1) := by decide +kernel
theorem dX4_told_11 : decode cX4_told 11 = .ok (.goto 4, 3) := by decide +kernel
theorem dX4_told_14 : decode cX4_told 14 = .ok (.iconst 0, 1) := by decide +kernel
theorem dX4_told_15 : decode cX4_told 15 = .ok (.putfield 72, 3) := by decide +kernel
theorem dX4_told_18 : decode cX4_told 18 = .ok (.aload_n 0, 1) := by decide +kernel
theorem dX4_told_19 : decode cX4_told 19 = .ok (.getfield 72, 3) := by decide +kernel
theorem dX4_told_22 : decode cX4_told 22 = .ok (.ifCond .le 5, 3) := by decide +kernel
theorem dX4_told_25 : decode cX4_told 25 = .ok (.iconst 0, 1) := by decide +kernel
theorem dX4_told_26 : decode cX4_told 26 = .ok (.ireturn, 1) := by decide +kernel
theorem dX4_told_27 : decode cX4_told 27 = .ok (.iload_n 1, 1) := by decide +kernel
theorem dX4_told_28 : decode cX4_told 28 = .ok (.iconst 3, 1) := by decide +kernel
theorem dX4_told_29 : decode cX4_told 29 = .ok (.if_icmp .ge 31, 3) := by decide +kernel
theorem dX4_told_32 : decode cX4_told 32 = .ok (.iload_n 1, 1) := by decide +kernel
theorem dX4_told_33 : decode cX4_told 33 = .ok (.ifCond .ne 10, 3) := by decide +kernel
theorem dX4_told_36 : decode cX4_told 36 = .ok (.aload_n 0, 1) := by decide +kernel
theorem dX4_told_37 : decode cX4_told 37 = .ok (.getfield 66, 3) := by decide +kernel
theorem dX4_told_40 : decode cX4_told 40 = .ok (.goto 19, 3) := by decide +kernel
theorem dX4_told_43 : decode cX4_told 43 = .ok (.iload_n 1, 1) := by decide +kernel
theorem dX4_told_44 : decode cX4_told 44 = .ok (.iconst 1, 1) := by decide +kernel
theorem dX4_told_45 : decode cX4_told 45 = .ok (.if_icmp .ne 10, 3) := by decide +kernel
theorem dX4_told_48 : decode cX4_told 48 = .ok (.aload_n 0, 1) := by decide +kernel
theorem dX4_told_49 : decode cX4_told 49 = .ok (.getfield 69, 3) := by decide +kernel
theorem dX4_told_52 : decode cX4_told 52 = .ok (.goto 7, 3) := by decide +kernel
theorem dX4_told_55 : decode cX4_told 55 = .ok (.aload_n 0, 1) := by decide +kernel
theorem dX4_told_56 : decode cX4_told 56 = .ok (.getfield 13, 3) := by decide +kernel
theorem dX4_told_59 : decode cX4_told 59 = .ok (.ireturn, 1) := by decide +kernel
theorem dX4_told_60 : decode cX4_told 60 = .ok (.iload_n 1, 1) := by decide +kernel
theorem dX4_told_61 : decode cX4_told 61 = .ok (.iconst 3, 1) := by decide +kernel
theorem dX4_told_62 : decode cX4_told 62 = .ok (.if_icmp .ne 10, 3) := by decide +kernel
theorem dX4_told_65 : decode cX4_told 65 = .ok (.aload_n 0, 1) := by decide +kernel
theorem dX4_told_66 : decode cX4_told 66 = .ok (.getfield 7, 3) := by decide +kernel
theorem dX4_told_69 : decode cX4_told 69 = .ok (.goto 27, 3) := by decide +kernel
theorem dX4_told_72 : decode cX4_told 72 = .ok (.iload_n 1, 1) := by decide +kernel
theorem dX4_told_73 : decode cX4_told 73 = .ok (.iconst 4, 1) := by decide +kernel
theorem dX4_told_74 : decode cX4_told 74 = .ok (.if_icmp .ne 18, 3) := by decide +kernel
theorem dX4_told_77 : decode cX4_told 77 = .ok (.aload_n 0, 1) := by decide +kernel
theorem dX4_told_78 : decode cX4_told 78 = .ok (.getfield 122, 3) := by decide +kernel
theorem dX4_told_81 : decode cX4_told 81 = .ok (.ifCond .eq 7, 3) := by decide +kernel
theorem dX4_told_84 : decode cX4_told 84 = .ok (.iconst 1, 1) := by decide +kernel
theorem dX4_told_85 : decode cX4_told 85 = .ok (.goto 11, 3) := by decide +kernel
theorem dX4_told_88 : decode cX4_told 88 = .ok (.iconst 0, 1) := by decide +kernel
theorem dX4_told_89 : decode cX4_told 89 = .ok (.goto 7, 3) := by decide +kernel
theorem dX4_told_92 : decode cX4_told 92 = .ok (.aload_n 0, 1) := by decide +kernel
theorem dX4_told_93 : decode cX4_told 93 = .ok (.getfield 132, 3) := by decide +kernel
theorem dX4_told_96 : decode cX4_told 96 = .ok (.ireturn, 1) := by decide +kernel
theorem dX4_bound_0 : decode cX4_bound 0 = .ok (.aload_n 0, 1) := by decide +kernel
theorem dX4_bound_1 : decode cX4_bound 1 = .ok (.iload_n 1, 1) := by decide +kernel
theorem dX4_bound_2 : decode cX4_bound 2 = .ok (.iconst 1, 1) := by decide +kernel
theorem dX4_bound_3 : decode cX4_bound 3 = .ok (.if_icmp .lt 9, 3) := by decide +kernel
theorem dX4_bound_6 : decode cX4_bound 6 = .ok (.iload_n 1, 1) := by decide +kernel
theorem dX4_bound_7 : decode cX4_bound 7 = .ok (.bipush 6, 2) := by decide +kernel
theorem dX4_bound_9 : decode cX4_bound 9 = .ok (.if_icmp .le 7, 3) := by decide +kernel
theorem dX4_bound_12 : decode cX4_bound 12 = .ok (.iconst 1, 1) := by decide +kernel
theorem dX4_bound_13 : decode cX4_bound 13 = .ok (.goto 4, 3) := by decide +kernel
theorem dX4_bound_16 : decode cX4_bound 16 = .ok (.iconst 0, 1) := by decide +kernel
theorem dX4_bound_17 : decode cX4_bound 17 = .ok (.putfield 72, 3) := by decide +kernel
theorem dX4_bound_20 : decode cX4_bound 20 = .ok (.aload_n 0, 1) := by decide +kernel
theorem dX4_bound_21 : decode cX4_bound 21 = .ok (.aload_n 0, 1) := by decide +kernel
theorem dX4_bound_22 : decode cX4_bound 22 = .ok (.getfield 72, 3) := by decide +kernel
theorem dX4_bound_25 : decode cX4_bound 25 = .ok (.ifCond .le 10, 3) := by decide +kernel
theorem dX4_bound_28 : decode cX4_bound 28 = .ok (.aload_n 0, 1) := by decide +kernel
theorem dX4_bound_29 : decode cX4_bound 29 = .ok (.getfield 7, 3) := by decide +kernel
theorem dX4_bound_32 : decode cX4_bound 32 = .ok (.goto 4, 3) := by decide +kernel
theorem dX4_bound_35 : decode cX4_bound 35 = .ok (.iload_n 1, 1) := by decide +kernel
theorem dX4_bound_36 : decode cX4_bound 36 = .ok (.putfield 7, 3) := by decide +kernel
theorem dX4_bound_39 : decode cX4_bound 39 = .ok (.return_, 1) := by decide +kernel
theorem dX4_group_0 : decode cX4_group 0 = .ok (.aload_n 0, 1) := by decide +kernel
theorem dX4_group_1 : decode cX4_group 1 = .ok (.aload_n 0, 1) := by decide +kernel
theorem dX4_group_2 : decode cX4_group 2 = .ok (.getfield 13, 3) := by decide +kernel
theorem dX4_group_5 : decode cX4_group 5 = .ok (.bipush 40, 2) := by decide +kernel
theorem dX4_group_7 : decode cX4_group 7 = .ok (.if_icmp .ne 7, 3) := by decide +kernel
theorem dX4_group_10 : decode cX4_group 10 = .ok (.iconst 1, 1) := by decide +kernel
theorem dX4_group_11 : decode cX4_group 11 = .ok (.goto 4, 3) := by decide +kernel
theorem dX4_group_14 : decode cX4_group 14 = .ok (.iconst 0, 1) := by decide +kernel
theorem dX4_group_15 : decode cX4_group 15 = .ok (.putfield 72, 3) := by decide +kernel
theorem dX4_group_18 : decode cX4_group 18 = .ok (.aload_n 0, 1) := by decide +kernel
theorem dX4_group_19 : decode cX4_group 19 = .ok (.getfield 72, 3) := by decide +kernel
theorem dX4_group_22 : decode cX4_group 22 = .ok (.ifCond .le 5, 3) := by decide +kernel
theorem dX4_group_25 : decode cX4_group 25 = .ok (.iconst 0, 1) := by decide +kernel
theorem dX4_group_26 : decode cX4_group 26 = .ok (.ireturn, 1) := by decide +kernel
theorem dX4_group_27 : decode cX4_group 27 = .ok (.aload_n 0, 1) := by decide +kernel
theorem dX4_group_28 : decode cX4_group 28 = .ok (.getfield 16, 3) := by decide +kernel
theorem dX4_group_31 : decode cX4_group 31 = .ok (.aload_n 0, 1) := by decide +kernel
theorem dX4_group_32 : decode cX4_group 32 = .ok (.getfield 13, 3) := by decide +kernel
theorem dX4_group_35 : decode cX4_group 35 = .ok (.iaload, 1) := by decide +kernel
theorem dX4_group_36 : decode cX4_group 36 = .ok (.iconst (-1), 1) := by decide +kernel
theorem dX4_group_37 : decode cX4_group 37 = .ok (.if_icmp .ne 7, 3) := by decide +kernel
theorem dX4_group_40 : decode cX4_group 40 = .ok (.iconst 1, 1) := by decide +kernel
theorem dX4_group_41 : decode cX4_group 41 = .ok (.goto 4, 3) := by decide +kernel
theorem dX4_group_44 : decode cX4_group 44 = .ok (.iconst 0, 1) := by decide +kernel
theorem dX4_group_45 : decode cX4_group 45 = .ok (.istore_n 3, 1) := by decide +kernel
theorem dX4_group_46 : decode cX4_group 46 = .ok (.aload_n 0, 1) := by decide +kernel
theorem dX4_group_47 : decode cX4_group 47 = .ok (.dup, 1) := by decide +kernel
theorem dX4_group_48 : decode cX4_group 48 = .ok (.getfield 13, 3) := by decide +kernel
theorem dX4_group_51 : decode cX4_group 51 = .ok (.iconst 1, 1) := by decide +kernel
theorem dX4_group_52 : decode cX4_group 52 = .ok (.iadd, 1) := by decide +kernel
theorem dX4_group_53 : decode cX4_group 53 = .ok (.putfield 13, 3) := by decide +kernel
theorem dX4_group_56 : decode cX4_group 56 = .ok (.iload_n 3, 1) := by decide +kernel
theorem dX4_group_57 : decode cX4_group 57 = .ok (.ifCond .ne 14, 3) := by decide +kernel
theorem dX4_group_60 : decode cX4_group 60 = .ok (.aload_n 0, 1) := by decide +kernel
theorem dX4_group_61 : decode cX4_group 61 = .ok (.getfield 13, 3) := by decide +kernel
theorem dX4_group_64 : decode cX4_group 64 = .ok (.aload_n 0, 1) := by decide +kernel
theorem dX4_group_65 : decode cX4_group 65 = .ok (.getfield 7, 3) := by decide +kernel
theorem dX4_group_68 : decode cX4_group 68 = .ok (.if_icmp .le 18, 3) := by decide +kernel
theorem dX4_group_71 : decode cX4_group 71 = .ok (.aload_n 0, 1) := by decide +kernel
theorem dX4_group_72 : decode cX4_group 72 = .ok (.getfield 16, 3) := by decide +kernel
theorem dX4_group_75 : decode cX4_group 75 = .ok (.aload_n 0, 1) := by decide +kernel
theorem dX4_group_76 : decode cX4_group 76 = .ok (.getfield 13, 3) := by decide +kernel
theorem dX4_group_79 : decode cX4_group 79 = .ok (.iconst (-1), 1) := by decide +kernel
theorem dX4_group_80 : decode cX4_group 80 = .ok (.iastore, 1) := by decide +kernel
theorem dX4_group_81 : decode cX4_group 81 = .ok (.aload_n 0, 1) := by decide +kernel
theorem dX4_group_82 : decode cX4_group 82 = .ok (.getfield 13, 3) := by decide +kernel
theorem dX4_group_85 : decode cX4_group 85 = .ok (.ireturn, 1) := by decide +kernel
theorem dX4_group_86 : decode cX4_group 86 = .ok (.aload_n 0, 1) := by decide +kernel
theorem dX4_group_87 : decode cX4_group 87 = .ok (.getfield 20, 3) := by decide +kernel
theorem dX4_group_90 : decode cX4_group 90 = .ok (.istore 4, 2) := by decide +kernel
theorem dX4_group_92 : decode cX4_group 92 = .ok (.aload_n 0, 1) := by decide +kernel
theorem dX4_group_93 : decode cX4_group 93 = .ok (.dup, 1) := by decide +kernel
theorem dX4_group_94 : decode cX4_group 94 = .ok (.getfield 20, 3) := by decide +kernel
theorem dX4_group_97 : decode cX4_group 97 = .ok (.iconst 1, 1) := by decide +kernel
theorem dX4_group_98 : decode cX4_group 98 = .ok (.iadd, 1) := by decide +kernel
theorem dX4_group_99 : decode cX4_group 99 = .ok (.putfield 20, 3) := by decide +kernel
theorem dX4_group_102 : decode cX4_group 102 = .ok (.aload_n 0, 1) := by decide +kernel
theorem dX4_group_103 : decode cX4_group 103 = .ok (.getfield 16, 3) := by decide +kernel
theorem dX4_group_106 : decode cX4_group 106 = .ok (.aload_n 0, 1) := by decide +kernel
theorem dX4_group_107 : decode cX4_group 107 = .ok (.getfield 13, 3) := by decide +kernel
theorem dX4_group_110 : decode cX4_group 110 = .ok (.iload 4, 2) := by decide +kernel
theorem dX4_group_112 : decode cX4_group 112 = .ok (.iastore, 1) := by decide +kernel
theorem dX4_group_113 : decode cX4_group 113 = .ok (.aload_n 0, 1) := by decide +kernel
theorem dX4_group_114 : decode cX4_group 114 = .ok (.getfield 23, 3) := by decide +kernel
theorem dX4_group_117 : decode cX4_group 117 = .ok (.iload 4, 2) := by decide +kernel
theorem dX4_group_119 : decode cX4_group 119 = .ok (.iload_n 2, 1) := by decide +kernel
theorem dX4_group_120 : decode cX4_group 120 = .ok (.bastore, 1) := by decide +kernel
theorem dX4_group_121 : decode cX4_group 121 = .ok (.iconst 0, 1) := by decide +kernel
theorem dX4_group_122 : decode cX4_group 122 = .ok (.istore 5, 2) := by decide +kernel
theorem dX4_group_124 : decode cX4_group 124 = .ok (.iload 5, 2) := by decide +kernel
theorem dX4_group_126 : decode cX4_group 126 = .ok (.sipush 144, 3) := by decide +kernel
theorem dX4_group_129 : decode cX4_group 129 = .ok (.if_icmp .ge 130, 3) := by decide +kernel
theorem dX4_group_132 : decode cX4_group 132 = .ok (.sipush 144, 3) := by decide +kernel
theorem dX4_group_135 : decode cX4_group 135 = .ok (.iload 4, 2) := by decide +kernel
theorem dX4_group_137 : decode cX4_group 137 = .ok (.imul, 1) := by decide +kernel
theorem dX4_group_138 : decode cX4_group 138 = .ok (.iload 5, 2) := by decide +kernel
theorem dX4_group_140 : decode cX4_group 140 = .ok (.iadd, 1) := by decide +kernel
theorem dX4_group_141 : decode cX4_group 141 = .ok (.istore 6, 2) := by decide +kernel
theorem dX4_group_143 : decode cX4_group 143 = .ok (.aload_n 0, 1) := by decide +kernel
theorem dX4_group_144 : decode cX4_group 144 = .ok (.getfield 30, 3) := by decide +kernel
theorem dX4_group_147 : decode cX4_group 147 = .ok (.iload 6, 2) := by decide +kernel
theorem dX4_group_149 : decode cX4_group 149 = .ok (.iload_n 1, 1) := by decide +kernel
theorem dX4_group_150 : decode cX4_group 150 = .ok (.ifCond .eq 7, 3) := by decide +kernel
theorem dX4_group_153 : decode cX4_group 153 = .ok (.iconst 0, 1) := by decide +kernel
theorem dX4_group_154 : decode cX4_group 154 = .ok (.goto 13, 3) := by decide +kernel
theorem dX4_group_157 : decode cX4_group 157 = .ok (.aload_n 0, 1) := by decide +kernel
theorem dX4_group_158 : decode cX4_group 158 = .ok (.iload 4, 2) := by decide +kernel
theorem dX4_group_160 : decode cX4_group 160 = .ok (.iconst 1, 1) := by decide +kernel
theorem dX4_group_161 : decode cX4_group 161 = .ok (.isub, 1) := by decide +kernel
theorem dX4_group_162 : decode cX4_group 162 = .ok (.iload 5, 2) := by decide +kernel
theorem dX4_group_164 : decode cX4_group 164 = .ok (.invokevirtual 126, 3) := by decide +kernel
theorem dX4_group_167 : decode cX4_group 167 = .ok (.iastore, 1) := by decide +kernel
theorem dX4_group_168 : decode cX4_group 168 = .ok (.aload_n 0, 1) := by decide +kernel
theorem dX4_group_169 : decode cX4_group 169 = .ok (.getfield 36, 3) := by decide +kernel
theorem dX4_group_172 : decode cX4_group 172 = .ok (.iload 6, 2) := by decide +kernel
theorem dX4_group_174 : decode cX4_group 174 = .ok (.iconst 0, 1) := by decide +kernel
theorem dX4_group_175 : decode cX4_group 175 = .ok (.iastore, 1) := by decide +kernel
theorem dX4_group_176 : decode cX4_group 176 = .ok (.aload_n 0, 1) := by decide +kernel
theorem dX4_group_177 : decode cX4_group 177 = .ok (.getfield 39, 3) := by decide +kernel
theorem dX4_group_180 : decode cX4_group 180 = .ok (.iload 6, 2) := by decide +kernel
theorem dX4_group_182 : decode cX4_group 182 = .ok (.iconst 0, 1) := by decide +kernel
theorem dX4_group_183 : decode cX4_group 183 = .ok (.iastore, 1) := by decide +kernel
theorem dX4_group_184 : decode cX4_group 184 = .ok (.iconst 0, 1) := by decide +kernel
theorem dX4_group_185 : decode cX4_group 185 = .ok (.istore 7, 2) := by decide +kernel
theorem dX4_group_187 : decode cX4_group 187 = .ok (.iload 7, 2) := by decide +kernel
theorem dX4_group_189 : decode cX4_group 189 = .ok (.iconst 3, 1) := by decide +kernel
theorem dX4_group_190 : decode cX4_group 190 = .ok (.if_icmp .ge 63, 3) := by decide +kernel
theorem dX4_group_193 : decode cX4_group 193 = .ok (.iload_n 1, 1) := by decide +kernel
theorem dX4_group_194 : decode cX4_group 194 = .ok (.ifCond .eq 7, 3) := by decide +kernel
theorem dX4_group_197 : decode cX4_group 197 = .ok (.iconst 0, 1) := by decide +kernel
theorem dX4_group_198 : decode cX4_group 198 = .ok (.goto 19, 3) := by decide +kernel
theorem dX4_group_201 : decode cX4_group 201 = .ok (.aload_n 0, 1) := by decide +kernel
theorem dX4_group_202 : decode cX4_group 202 = .ok (.getfield 33, 3) := by decide +kernel
theorem dX4_group_205 : decode cX4_group 205 = .ok (.iconst 3, 1) := by decide +kernel
theorem dX4_group_206 : decode cX4_group 206 = .ok (.iload 6, 2) := by decide +kernel
theorem dX4_group_208 : decode cX4_group 208 = .ok (.sipush 144, 3) := by decide +kernel
theorem dX4_group_211 : decode cX4_group 211 = .ok (.isub, 1) := by decide +kernel
theorem dX4_group_212 : decode cX4_group 212 = .ok (.imul, 1) := by decide +kernel
theorem dX4_group_213 : decode cX4_group 213 = .ok (.iload 7, 2) := by decide +kernel
theorem dX4_group_215 : decode cX4_group 215 = .ok (.iadd, 1) := by decide +kernel
theorem dX4_group_216 : decode cX4_group 216 = .ok (.iaload, 1) := by decide +kernel
theorem dX4_group_217 : decode cX4_group 217 = .ok (.istore 8, 2) := by decide +kernel
theorem dX4_group_219 : decode cX4_group 219 = .ok (.aload_n 0, 1) := by decide +kernel
theorem dX4_group_220 : decode cX4_group 220 = .ok (.getfield 27, 3) := by decide +kernel
theorem dX4_group_223 : decode cX4_group 223 = .ok (.iconst 3, 1) := by decide +kernel
theorem dX4_group_224 : decode cX4_group 224 = .ok (.iload 6, 2) := by decide +kernel
theorem dX4_group_226 : decode cX4_group 226 = .ok (.imul, 1) := by decide +kernel
theorem dX4_group_227 : decode cX4_group 227 = .ok (.iload 7, 2) := by decide +kernel
theorem dX4_group_229 : decode cX4_group 229 = .ok (.iadd, 1) := by decide +kernel
theorem dX4_group_230 : decode cX4_group 230 = .ok (.iload 8, 2) := by decide +kernel
theorem dX4_group_232 : decode cX4_group 232 = .ok (.iastore, 1) := by decide +kernel
theorem dX4_group_233 : decode cX4_group 233 = .ok (.aload_n 0, 1) := by decide +kernel
theorem dX4_group_234 : decode cX4_group 234 = .ok (.getfield 33, 3) := by decide +kernel
theorem dX4_group_237 : decode cX4_group 237 = .ok (.iconst 3, 1) := by decide +kernel
theorem dX4_group_238 : decode cX4_group 238 = .ok (.iload 6, 2) := by decide +kernel
theorem dX4_group_240 : decode cX4_group 240 = .ok (.imul, 1) := by decide +kernel
theorem dX4_group_241 : decode cX4_group 241 = .ok (.iload 7, 2) := by decide +kernel
theorem dX4_group_243 : decode cX4_group 243 = .ok (.iadd, 1) := by decide +kernel
theorem dX4_group_244 : decode cX4_group 244 = .ok (.iload 8, 2) := by decide +kernel
theorem dX4_group_246 : decode cX4_group 246 = .ok (.iastore, 1) := by decide +kernel
theorem dX4_group_247 : decode cX4_group 247 = .ok (.iinc 7 1, 3) := by decide +kernel
theorem dX4_group_250 : decode cX4_group 250 = .ok (.goto (-63), 3) := by decide +kernel
theorem dX4_group_253 : decode cX4_group 253 = .ok (.iinc 5 1, 3) := by decide +kernel
theorem dX4_group_256 : decode cX4_group 256 = .ok (.goto (-132), 3) := by decide +kernel
theorem dX4_group_259 : decode cX4_group 259 = .ok (.aload_n 0, 1) := by decide +kernel
theorem dX4_group_260 : decode cX4_group 260 = .ok (.getfield 13, 3) := by decide +kernel
theorem dX4_group_263 : decode cX4_group 263 = .ok (.ireturn, 1) := by decide +kernel
theorem dX4_leave_0 : decode cX4_leave 0 = .ok (.aload_n 0, 1) := by decide +kernel
theorem dX4_leave_1 : decode cX4_leave 1 = .ok (.getfield 16, 3) := by decide +kernel
theorem dX4_leave_4 : decode cX4_leave 4 = .ok (.aload_n 0, 1) := by decide +kernel
theorem dX4_leave_5 : decode cX4_leave 5 = .ok (.getfield 13, 3) := by decide +kernel
theorem dX4_leave_8 : decode cX4_leave 8 = .ok (.iaload, 1) := by decide +kernel
theorem dX4_leave_9 : decode cX4_leave 9 = .ok (.istore_n 1, 1) := by decide +kernel
theorem dX4_leave_10 : decode cX4_leave 10 = .ok (.aload_n 0, 1) := by decide +kernel
theorem dX4_leave_11 : decode cX4_leave 11 = .ok (.dup, 1) := by decide +kernel
theorem dX4_leave_12 : decode cX4_leave 12 = .ok (.getfield 13, 3) := by decide +kernel
theorem dX4_leave_15 : decode cX4_leave 15 = .ok (.iconst 1, 1) := by decide +kernel
theorem dX4_leave_16 : decode cX4_leave 16 = .ok (.isub, 1) := by decide +kernel
theorem dX4_leave_17 : decode cX4_leave 17 = .ok (.putfield 13, 3) := by decide +kernel
theorem dX4_leave_20 : decode cX4_leave 20 = .ok (.aload_n 0, 1) := by decide +kernel
theorem dX4_leave_21 : decode cX4_leave 21 = .ok (.iload_n 1, 1) := by decide +kernel
theorem dX4_leave_22 : decode cX4_leave 22 = .ok (.iconst (-1), 1) := by decide +kernel
theorem dX4_leave_23 : decode cX4_leave 23 = .ok (.if_icmp .ne 10, 3) := by decide +kernel
theorem dX4_leave_26 : decode cX4_leave 26 = .ok (.aload_n 0, 1) := by decide +kernel
theorem dX4_leave_27 : decode cX4_leave 27 = .ok (.getfield 20, 3) := by decide +kernel
theorem dX4_leave_30 : decode cX4_leave 30 = .ok (.goto 9, 3) := by decide +kernel
theorem dX4_leave_33 : decode cX4_leave 33 = .ok (.aload_n 0, 1) := by decide +kernel
theorem dX4_leave_34 : decode cX4_leave 34 = .ok (.getfield 20, 3) := by decide +kernel
theorem dX4_leave_37 : decode cX4_leave 37 = .ok (.iconst 1, 1) := by decide +kernel
theorem dX4_leave_38 : decode cX4_leave 38 = .ok (.isub, 1) := by decide +kernel
theorem dX4_leave_39 : decode cX4_leave 39 = .ok (.putfield 20, 3) := by decide +kernel
theorem dX4_leave_42 : decode cX4_leave 42 = .ok (.iload_n 1, 1) := by decide +kernel
theorem dX4_leave_43 : decode cX4_leave 43 = .ok (.ireturn, 1) := by decide +kernel
theorem dX4_end_0 : decode cX4_end 0 = .ok (.aload_n 0, 1) := by decide +kernel
theorem dX4_end_1 : decode cX4_end 1 = .ok (.aload_n 0, 1) := by decide +kernel
theorem dX4_end_2 : decode cX4_end 2 = .ok (.getfield 13, 3) := by decide +kernel
theorem dX4_end_5 : decode cX4_end 5 = .ok (.iconst 1, 1) := by decide +kernel
theorem dX4_end_6 : decode cX4_end 6 = .ok (.if_icmp .ne 7, 3) := by decide +kernel
theorem dX4_end_9 : decode cX4_end 9 = .ok (.iconst 1, 1) := by decide +kernel
theorem dX4_end_10 : decode cX4_end 10 = .ok (.goto 25, 3) := by decide +kernel
theorem dX4_end_13 : decode cX4_end 13 = .ok (.iload_n 1, 1) := by decide +kernel
theorem dX4_end_14 : decode cX4_end 14 = .ok (.ifCond .lt 16, 3) := by decide +kernel
theorem dX4_end_17 : decode cX4_end 17 = .ok (.iload_n 1, 1) := by decide +kernel
theorem dX4_end_18 : decode cX4_end 18 = .ok (.bipush 15, 2) := by decide +kernel
theorem dX4_end_20 : decode cX4_end 20 = .ok (.if_icmp .gt 10, 3) := by decide +kernel
theorem dX4_end_23 : decode cX4_end 23 = .ok (.iload_n 2, 1) := by decide +kernel
theorem dX4_end_24 : decode cX4_end 24 = .ok (.invokestatic 135, 3) := by decide +kernel
theorem dX4_end_27 : decode cX4_end 27 = .ok (.ifCond .ne 7, 3) := by decide +kernel
theorem dX4_end_30 : decode cX4_end 30 = .ok (.iconst 2, 1) := by decide +kernel
theorem dX4_end_31 : decode cX4_end 31 = .ok (.goto 4, 3) := by decide +kernel
theorem dX4_end_34 : decode cX4_end 34 = .ok (.iconst 0, 1) := by decide +kernel
theorem dX4_end_35 : decode cX4_end 35 = .ok (.putfield 72, 3) := by decide +kernel
theorem dX4_end_38 : decode cX4_end 38 = .ok (.aload_n 0, 1) := by decide +kernel
theorem dX4_end_39 : decode cX4_end 39 = .ok (.getfield 72, 3) := by decide +kernel
theorem dX4_end_42 : decode cX4_end 42 = .ok (.ifCond .le 5, 3) := by decide +kernel
theorem dX4_end_45 : decode cX4_end 45 = .ok (.iconst 0, 1) := by decide +kernel
theorem dX4_end_46 : decode cX4_end 46 = .ok (.ireturn, 1) := by decide +kernel
theorem dX4_end_47 : decode cX4_end 47 = .ok (.aload_n 0, 1) := by decide +kernel
theorem dX4_end_48 : decode cX4_end 48 = .ok (.invokevirtual 139, 3) := by decide +kernel
theorem dX4_end_51 : decode cX4_end 51 = .ok (.istore_n 3, 1) := by decide +kernel
theorem dX4_end_52 : decode cX4_end 52 = .ok (.aload_n 0, 1) := by decide +kernel
theorem dX4_end_53 : decode cX4_end 53 = .ok (.dup, 1) := by decide +kernel
theorem dX4_end_54 : decode cX4_end 54 = .ok (.getfield 132, 3) := by decide +kernel
theorem dX4_end_57 : decode cX4_end 57 = .ok (.iload_n 3, 1) := by decide +kernel
theorem dX4_end_58 : decode cX4_end 58 = .ok (.iconst (-1), 1) := by decide +kernel
theorem dX4_end_59 : decode cX4_end 59 = .ok (.if_icmp .ne 7, 3) := by decide +kernel
theorem dX4_end_62 : decode cX4_end 62 = .ok (.iconst 0, 1) := by decide +kernel
theorem dX4_end_63 : decode cX4_end 63 = .ok (.goto 4, 3) := by decide +kernel
theorem dX4_end_66 : decode cX4_end 66 = .ok (.iconst 1, 1) := by decide +kernel
theorem dX4_end_67 : decode cX4_end 67 = .ok (.iadd, 1) := by decide +kernel
theorem dX4_end_68 : decode cX4_end 68 = .ok (.putfield 132, 3) := by decide +kernel
theorem dX4_end_71 : decode cX4_end 71 = .ok (.iconst 0, 1) := by decide +kernel
theorem dX4_end_72 : decode cX4_end 72 = .ok (.istore 4, 2) := by decide +kernel
theorem dX4_end_74 : decode cX4_end 74 = .ok (.iload 4, 2) := by decide +kernel
theorem dX4_end_76 : decode cX4_end 76 = .ok (.aload_n 0, 1) := by decide +kernel
theorem dX4_end_77 : decode cX4_end 77 = .ok (.getfield 69, 3) := by decide +kernel
theorem dX4_end_80 : decode cX4_end 80 = .ok (.if_icmp .ge 115, 3) := by decide +kernel
theorem dX4_end_83 : decode cX4_end 83 = .ok (.iload_n 3, 1) := by decide +kernel
theorem dX4_end_84 : decode cX4_end 84 = .ok (.iconst (-1), 1) := by decide +kernel
theorem dX4_end_85 : decode cX4_end 85 = .ok (.if_icmp .eq 110, 3) := by decide +kernel
theorem dX4_end_88 : decode cX4_end 88 = .ok (.iconst 0, 1) := by decide +kernel
theorem dX4_end_89 : decode cX4_end 89 = .ok (.istore 5, 2) := by decide +kernel
theorem dX4_end_91 : decode cX4_end 91 = .ok (.iload 5, 2) := by decide +kernel
theorem dX4_end_93 : decode cX4_end 93 = .ok (.aload_n 0, 1) := by decide +kernel
theorem dX4_end_94 : decode cX4_end 94 = .ok (.getfield 66, 3) := by decide +kernel
theorem dX4_end_97 : decode cX4_end 97 = .ok (.if_icmp .ge 92, 3) := by decide +kernel
theorem dX4_end_100 : decode cX4_end 100 = .ok (.aload_n 0, 1) := by decide +kernel
theorem dX4_end_101 : decode cX4_end 101 = .ok (.iload 5, 2) := by decide +kernel
theorem dX4_end_103 : decode cX4_end 103 = .ok (.iload 4, 2) := by decide +kernel
theorem dX4_end_105 : decode cX4_end 105 = .ok (.invokevirtual 143, 3) := by decide +kernel
theorem dX4_end_108 : decode cX4_end 108 = .ok (.istore 6, 2) := by decide +kernel
theorem dX4_end_110 : decode cX4_end 110 = .ok (.aload_n 0, 1) := by decide +kernel
theorem dX4_end_111 : decode cX4_end 111 = .ok (.getfield 39, 3) := by decide +kernel
theorem dX4_end_114 : decode cX4_end 114 = .ok (.sipush 144, 3) := by decide +kernel
theorem dX4_end_117 : decode cX4_end 117 = .ok (.iload_n 3, 1) := by decide +kernel
theorem dX4_end_118 : decode cX4_end 118 = .ok (.imul, 1) := by decide +kernel
theorem dX4_end_119 : decode cX4_end 119 = .ok (.iload 6, 2) := by decide +kernel
theorem dX4_end_121 : decode cX4_end 121 = .ok (.iadd, 1) := by decide +kernel
theorem dX4_end_122 : decode cX4_end 122 = .ok (.iaload, 1) := by decide +kernel
theorem dX4_end_123 : decode cX4_end 123 = .ok (.istore 7, 2) := by decide +kernel
theorem dX4_end_125 : decode cX4_end 125 = .ok (.aload_n 0, 1) := by decide +kernel
theorem dX4_end_126 : decode cX4_end 126 = .ok (.getfield 36, 3) := by decide +kernel
theorem dX4_end_129 : decode cX4_end 129 = .ok (.sipush 144, 3) := by decide +kernel
theorem dX4_end_132 : decode cX4_end 132 = .ok (.iload_n 3, 1) := by decide +kernel
theorem dX4_end_133 : decode cX4_end 133 = .ok (.imul, 1) := by decide +kernel
theorem dX4_end_134 : decode cX4_end 134 = .ok (.iload 6, 2) := by decide +kernel
theorem dX4_end_136 : decode cX4_end 136 = .ok (.iadd, 1) := by decide +kernel
theorem dX4_end_137 : decode cX4_end 137 = .ok (.iaload, 1) := by decide +kernel
theorem dX4_end_138 : decode cX4_end 138 = .ok (.iload_n 2, 1) := by decide +kernel
theorem dX4_end_139 : decode cX4_end 139 = .ok (.invokestatic 75, 3) := by decide +kernel
theorem dX4_end_142 : decode cX4_end 142 = .ok (.istore 8, 2) := by decide +kernel
theorem dX4_end_144 : decode cX4_end 144 = .ok (.aload_n 0, 1) := by decide +kernel
theorem dX4_end_145 : decode cX4_end 145 = .ok (.iload_n 3, 1) := by decide +kernel
theorem dX4_end_146 : decode cX4_end 146 = .ok (.iload 6, 2) := by decide +kernel
theorem dX4_end_148 : decode cX4_end 148 = .ok (.invokevirtual 146, 3) := by decide +kernel
theorem dX4_end_151 : decode cX4_end 151 = .ok (.aload_n 0, 1) := by decide +kernel
theorem dX4_end_152 : decode cX4_end 152 = .ok (.iload_n 3, 1) := by decide +kernel
theorem dX4_end_153 : decode cX4_end 153 = .ok (.iconst 1, 1) := by decide +kernel
theorem dX4_end_154 : decode cX4_end 154 = .ok (.isub, 1) := by decide +kernel
theorem dX4_end_155 : decode cX4_end 155 = .ok (.iload 6, 2) := by decide +kernel
theorem dX4_end_157 : decode cX4_end 157 = .ok (.iload_n 1, 1) := by decide +kernel
theorem dX4_end_158 : decode cX4_end 158 = .ok (.iload 7, 2) := by decide +kernel
theorem dX4_end_160 : decode cX4_end 160 = .ok (.aload_n 0, 1) := by decide +kernel
theorem dX4_end_161 : decode cX4_end 161 = .ok (.iload 8, 2) := by decide +kernel
theorem dX4_end_163 : decode cX4_end 163 = .ok (.iload 7, 2) := by decide +kernel
theorem dX4_end_165 : decode cX4_end 165 = .ok (.if_icmp .le 8, 3) := by decide +kernel
theorem dX4_end_168 : decode cX4_end 168 = .ok (.iload 7, 2) := by decide +kernel
theorem dX4_end_170 : decode cX4_end 170 = .ok (.goto 5, 3) := by decide +kernel
theorem dX4_end_173 : decode cX4_end 173 = .ok (.iload 8, 2) := by decide +kernel
theorem dX4_end_175 : decode cX4_end 175 = .ok (.iload 6, 2) := by decide +kernel
theorem dX4_end_177 : decode cX4_end 177 = .ok (.invokevirtual 150, 3) := by decide +kernel
theorem dX4_end_180 : decode cX4_end 180 = .ok (.invokevirtual 153, 3) := by decide +kernel
theorem dX4_end_183 : decode cX4_end 183 = .ok (.iinc 5 1, 3) := by decide +kernel
theorem dX4_end_186 : decode cX4_end 186 = .ok (.goto (-95), 3) := by decide +kernel
theorem dX4_end_189 : decode cX4_end 189 = .ok (.iinc 4 1, 3) := by decide +kernel
theorem dX4_end_192 : decode cX4_end 192 = .ok (.goto (-118), 3) := by decide +kernel
theorem dX4_end_195 : decode cX4_end 195 = .ok (.aload_n 0, 1) := by decide +kernel
theorem dX4_end_196 : decode cX4_end 196 = .ok (.getfield 13, 3) := by decide +kernel
theorem dX4_end_199 : decode cX4_end 199 = .ok (.ireturn, 1) := by decide +kernel
theorem dX4_mask_0 : decode cX4_mask 0 = .ok (.aload_n 0, 1) := by decide +kernel
theorem dX4_mask_1 : decode cX4_mask 1 = .ok (.aload_n 0, 1) := by decide +kernel
theorem dX4_mask_2 : decode cX4_mask 2 = .ok (.getfield 13, 3) := by decide +kernel
theorem dX4_mask_5 : decode cX4_mask 5 = .ok (.iconst 1, 1) := by decide +kernel
theorem dX4_mask_6 : decode cX4_mask 6 = .ok (.if_icmp .ne 7, 3) := by decide +kernel
theorem dX4_mask_9 : decode cX4_mask 9 = .ok (.iconst 1, 1) := by decide +kernel
theorem dX4_mask_10 : decode cX4_mask 10 = .ok (.goto 18, 3) := by decide +kernel
theorem dX4_mask_13 : decode cX4_mask 13 = .ok (.iload_n 1, 1) := by decide +kernel
theorem dX4_mask_14 : decode cX4_mask 14 = .ok (.iconst 1, 1) := by decide +kernel
theorem dX4_mask_15 : decode cX4_mask 15 = .ok (.if_icmp .lt 8, 3) := by decide +kernel
theorem dX4_mask_18 : decode cX4_mask 18 = .ok (.iload_n 1, 1) := by decide +kernel
theorem dX4_mask_19 : decode cX4_mask 19 = .ok (.iconst 2, 1) := by decide +kernel
theorem dX4_mask_20 : decode cX4_mask 20 = .ok (.if_icmp .le 7, 3) := by decide +kernel
theorem dX4_mask_23 : decode cX4_mask 23 = .ok (.iconst 2, 1) := by decide +kernel
theorem dX4_mask_24 : decode cX4_mask 24 = .ok (.goto 4, 3) := by decide +kernel
theorem dX4_mask_27 : decode cX4_mask 27 = .ok (.iconst 0, 1) := by decide +kernel
theorem dX4_mask_28 : decode cX4_mask 28 = .ok (.putfield 72, 3) := by decide +kernel
theorem dX4_mask_31 : decode cX4_mask 31 = .ok (.aload_n 0, 1) := by decide +kernel
theorem dX4_mask_32 : decode cX4_mask 32 = .ok (.getfield 72, 3) := by decide +kernel
theorem dX4_mask_35 : decode cX4_mask 35 = .ok (.ifCond .le 5, 3) := by decide +kernel
theorem dX4_mask_38 : decode cX4_mask 38 = .ok (.iconst 0, 1) := by decide +kernel
theorem dX4_mask_39 : decode cX4_mask 39 = .ok (.ireturn, 1) := by decide +kernel
theorem dX4_mask_40 : decode cX4_mask 40 = .ok (.aload_n 0, 1) := by decide +kernel
theorem dX4_mask_41 : decode cX4_mask 41 = .ok (.invokevirtual 139, 3) := by decide +kernel
theorem dX4_mask_44 : decode cX4_mask 44 = .ok (.istore_n 3, 1) := by decide +kernel
theorem dX4_mask_45 : decode cX4_mask 45 = .ok (.iconst 0, 1) := by decide +kernel
theorem dX4_mask_46 : decode cX4_mask 46 = .ok (.istore 4, 2) := by decide +kernel
theorem dX4_mask_48 : decode cX4_mask 48 = .ok (.iload 4, 2) := by decide +kernel
theorem dX4_mask_50 : decode cX4_mask 50 = .ok (.sipush 144, 3) := by decide +kernel
theorem dX4_mask_53 : decode cX4_mask 53 = .ok (.if_icmp .ge 111, 3) := by decide +kernel
theorem dX4_mask_56 : decode cX4_mask 56 = .ok (.iload_n 3, 1) := by decide +kernel
theorem dX4_mask_57 : decode cX4_mask 57 = .ok (.iconst (-1), 1) := by decide +kernel
theorem dX4_mask_58 : decode cX4_mask 58 = .ok (.if_icmp .eq 106, 3) := by decide +kernel
theorem dX4_mask_61 : decode cX4_mask 61 = .ok (.aload_n 0, 1) := by decide +kernel
theorem dX4_mask_62 : decode cX4_mask 62 = .ok (.getfield 36, 3) := by decide +kernel
theorem dX4_mask_65 : decode cX4_mask 65 = .ok (.sipush 144, 3) := by decide +kernel
theorem dX4_mask_68 : decode cX4_mask 68 = .ok (.iload_n 3, 1) := by decide +kernel
theorem dX4_mask_69 : decode cX4_mask 69 = .ok (.imul, 1) := by decide +kernel
theorem dX4_mask_70 : decode cX4_mask 70 = .ok (.iload 4, 2) := by decide +kernel
theorem dX4_mask_72 : decode cX4_mask 72 = .ok (.iadd, 1) := by decide +kernel
theorem dX4_mask_73 : decode cX4_mask 73 = .ok (.iaload, 1) := by decide +kernel
theorem dX4_mask_74 : decode cX4_mask 74 = .ok (.istore 5, 2) := by decide +kernel
theorem dX4_mask_76 : decode cX4_mask 76 = .ok (.iload_n 1, 1) := by decide +kernel
theorem dX4_mask_77 : decode cX4_mask 77 = .ok (.iconst 2, 1) := by decide +kernel
theorem dX4_mask_78 : decode cX4_mask 78 = .ok (.if_icmp .ne 53, 3) := by decide +kernel
theorem dX4_mask_81 : decode cX4_mask 81 = .ok (.aload_n 0, 1) := by decide +kernel
theorem dX4_mask_82 : decode cX4_mask 82 = .ok (.iload_n 3, 1) := by decide +kernel
theorem dX4_mask_83 : decode cX4_mask 83 = .ok (.iload 4, 2) := by decide +kernel
theorem dX4_mask_85 : decode cX4_mask 85 = .ok (.invokevirtual 146, 3) := by decide +kernel
theorem dX4_mask_88 : decode cX4_mask 88 = .ok (.iconst 0, 1) := by decide +kernel
theorem dX4_mask_89 : decode cX4_mask 89 = .ok (.istore 6, 2) := by decide +kernel
theorem dX4_mask_91 : decode cX4_mask 91 = .ok (.iload 6, 2) := by decide +kernel
theorem dX4_mask_93 : decode cX4_mask 93 = .ok (.iconst 3, 1) := by decide +kernel
theorem dX4_mask_94 : decode cX4_mask 94 = .ok (.if_icmp .ge 28, 3) := by decide +kernel
theorem dX4_mask_97 : decode cX4_mask 97 = .ok (.aload_n 0, 1) := by decide +kernel
theorem dX4_mask_98 : decode cX4_mask 98 = .ok (.getfield 54, 3) := by decide +kernel
theorem dX4_mask_101 : decode cX4_mask 101 = .ok (.iload 6, 2) := by decide +kernel
theorem dX4_mask_103 : decode cX4_mask 103 = .ok (.aload_n 0, 1) := by decide +kernel
theorem dX4_mask_104 : decode cX4_mask 104 = .ok (.getfield 54, 3) := by decide +kernel
theorem dX4_mask_107 : decode cX4_mask 107 = .ok (.iload 6, 2) := by decide +kernel
theorem dX4_mask_109 : decode cX4_mask 109 = .ok (.iaload, 1) := by decide +kernel
theorem dX4_mask_110 : decode cX4_mask 110 = .ok (.iload 5, 2) := by decide +kernel
theorem dX4_mask_112 : decode cX4_mask 112 = .ok (.invokestatic 75, 3) := by decide +kernel
theorem dX4_mask_115 : decode cX4_mask 115 = .ok (.iastore, 1) := by decide +kernel
theorem dX4_mask_116 : decode cX4_mask 116 = .ok (.iinc 6 1, 3) := by decide +kernel
theorem dX4_mask_119 : decode cX4_mask 119 = .ok (.goto (-28), 3) := by decide +kernel
theorem dX4_mask_122 : decode cX4_mask 122 = .ok (.aload_n 0, 1) := by decide +kernel
theorem dX4_mask_123 : decode cX4_mask 123 = .ok (.getfield 54, 3) := by decide +kernel
theorem dX4_mask_126 : decode cX4_mask 126 = .ok (.invokestatic 104, 3) := by decide +kernel
theorem dX4_mask_129 : decode cX4_mask 129 = .ok (.istore 5, 2) := by decide +kernel
theorem dX4_mask_131 : decode cX4_mask 131 = .ok (.aload_n 0, 1) := by decide +kernel
theorem dX4_mask_132 : decode cX4_mask 132 = .ok (.getfield 42, 3) := by decide +kernel
theorem dX4_mask_135 : decode cX4_mask 135 = .ok (.iload 4, 2) := by decide +kernel
theorem dX4_mask_137 : decode cX4_mask 137 = .ok (.iload_n 2, 1) := by decide +kernel
theorem dX4_mask_138 : decode cX4_mask 138 = .ok (.ifCond .eq 12, 3) := by decide +kernel
theorem dX4_mask_141 : decode cX4_mask 141 = .ok (.sipush 255, 3) := by decide +kernel
theorem dX4_mask_144 : decode cX4_mask 144 = .ok (.iload 5, 2) := by decide +kernel
theorem dX4_mask_146 : decode cX4_mask 146 = .ok (.isub, 1) := by decide +kernel
theorem dX4_mask_147 : decode cX4_mask 147 = .ok (.goto 5, 3) := by decide +kernel
theorem dX4_mask_150 : decode cX4_mask 150 = .ok (.iload 5, 2) := by decide +kernel
theorem dX4_mask_152 : decode cX4_mask 152 = .ok (.iastore, 1) := by decide +kernel
theorem dX4_mask_153 : decode cX4_mask 153 = .ok (.aload_n 0, 1) := by decide +kernel
theorem dX4_mask_154 : decode cX4_mask 154 = .ok (.iconst 1, 1) := by decide +kernel
theorem dX4_mask_155 : decode cX4_mask 155 = .ok (.putfield 122, 3) := by decide +kernel
theorem dX4_mask_158 : decode cX4_mask 158 = .ok (.iinc 4 1, 3) := by decide +kernel
theorem dX4_mask_161 : decode cX4_mask 161 = .ok (.goto (-113), 3) := by decide +kernel
theorem dX4_mask_164 : decode cX4_mask 164 = .ok (.aload_n 0, 1) := by decide +kernel
theorem dX4_mask_165 : decode cX4_mask 165 = .ok (.getfield 13, 3) := by decide +kernel
theorem dX4_mask_168 : decode cX4_mask 168 = .ok (.ireturn, 1) := by decide +kernel
theorem dX4_unmask_0 : decode cX4_unmask 0 = .ok (.aload_n 0, 1) := by decide +kernel
theorem dX4_unmask_1 : decode cX4_unmask 1 = .ok (.iconst 0, 1) := by decide +kernel
theorem dX4_unmask_2 : decode cX4_unmask 2 = .ok (.putfield 72, 3) := by decide +kernel
theorem dX4_unmask_5 : decode cX4_unmask 5 = .ok (.aload_n 0, 1) := by decide +kernel
theorem dX4_unmask_6 : decode cX4_unmask 6 = .ok (.iconst 0, 1) := by decide +kernel
theorem dX4_unmask_7 : decode cX4_unmask 7 = .ok (.putfield 122, 3) := by decide +kernel
theorem dX4_unmask_10 : decode cX4_unmask 10 = .ok (.return_, 1) := by decide +kernel
theorem dX4_colour_0 : decode cX4_colour 0 = .ok (.aload_n 0, 1) := by decide +kernel
theorem dX4_colour_1 : decode cX4_colour 1 = .ok (.iload_n 2, 1) := by decide +kernel
theorem dX4_colour_2 : decode cX4_colour 2 = .ok (.invokestatic 135, 3) := by decide +kernel
theorem dX4_colour_5 : decode cX4_colour 5 = .ok (.ifCond .ne 7, 3) := by decide +kernel
theorem dX4_colour_8 : decode cX4_colour 8 = .ok (.iconst 1, 1) := by decide +kernel
theorem dX4_colour_9 : decode cX4_colour 9 = .ok (.goto 15, 3) := by decide +kernel
theorem dX4_colour_12 : decode cX4_colour 12 = .ok (.iload_n 1, 1) := by decide +kernel
theorem dX4_colour_13 : decode cX4_colour 13 = .ok (.invokestatic 157, 3) := by decide +kernel
theorem dX4_colour_16 : decode cX4_colour 16 = .ok (.ifCond .ne 7, 3) := by decide +kernel
theorem dX4_colour_19 : decode cX4_colour 19 = .ok (.iconst 2, 1) := by decide +kernel
theorem dX4_colour_20 : decode cX4_colour 20 = .ok (.goto 4, 3) := by decide +kernel
theorem dX4_colour_23 : decode cX4_colour 23 = .ok (.iconst 0, 1) := by decide +kernel
theorem dX4_colour_24 : decode cX4_colour 24 = .ok (.putfield 72, 3) := by decide +kernel
theorem dX4_colour_27 : decode cX4_colour 27 = .ok (.aload_n 0, 1) := by decide +kernel
theorem dX4_colour_28 : decode cX4_colour 28 = .ok (.getfield 72, 3) := by decide +kernel
theorem dX4_colour_31 : decode cX4_colour 31 = .ok (.ifCond .ne 10, 3) := by decide +kernel
theorem dX4_colour_34 : decode cX4_colour 34 = .ok (.aload_n 0, 1) := by decide +kernel
theorem dX4_colour_35 : decode cX4_colour 35 = .ok (.getfield 48, 3) := by decide +kernel
theorem dX4_colour_38 : decode cX4_colour 38 = .ok (.iload_n 1, 1) := by decide +kernel
theorem dX4_colour_39 : decode cX4_colour 39 = .ok (.iload_n 2, 1) := by decide +kernel
theorem dX4_colour_40 : decode cX4_colour 40 = .ok (.iastore, 1) := by decide +kernel
theorem dX4_colour_41 : decode cX4_colour 41 = .ok (.return_, 1) := by decide +kernel
theorem dX4_stays_0 : decode cX4_stays 0 = .ok (.aload_n 0, 1) := by decide +kernel
theorem dX4_stays_1 : decode cX4_stays 1 = .ok (.iload_n 1, 1) := by decide +kernel
theorem dX4_stays_2 : decode cX4_stays 2 = .ok (.invokestatic 157, 3) := by decide +kernel
theorem dX4_stays_5 : decode cX4_stays 5 = .ok (.ifCond .eq 7, 3) := by decide +kernel
theorem dX4_stays_8 : decode cX4_stays 8 = .ok (.iconst 0, 1) := by decide +kernel
theorem dX4_stays_9 : decode cX4_stays 9 = .ok (.goto 4, 3) := by decide +kernel
theorem dX4_stays_12 : decode cX4_stays 12 = .ok (.iconst 1, 1) := by decide +kernel
theorem dX4_stays_13 : decode cX4_stays 13 = .ok (.putfield 72, 3) := by decide +kernel
theorem dX4_stays_16 : decode cX4_stays 16 = .ok (.aload_n 0, 1) := by decide +kernel
theorem dX4_stays_17 : decode cX4_stays 17 = .ok (.getfield 72, 3) := by decide +kernel
theorem dX4_stays_20 : decode cX4_stays 20 = .ok (.ifCond .ne 10, 3) := by decide +kernel
theorem dX4_stays_23 : decode cX4_stays 23 = .ok (.aload_n 0, 1) := by decide +kernel
theorem dX4_stays_24 : decode cX4_stays 24 = .ok (.getfield 51, 3) := by decide +kernel
theorem dX4_stays_27 : decode cX4_stays 27 = .ok (.iload_n 1, 1) := by decide +kernel
theorem dX4_stays_28 : decode cX4_stays 28 = .ok (.iload_n 2, 1) := by decide +kernel
theorem dX4_stays_29 : decode cX4_stays 29 = .ok (.bastore, 1) := by decide +kernel
theorem dX4_stays_30 : decode cX4_stays 30 = .ok (.return_, 1) := by decide +kernel
theorem dX4_cover_0 : decode cX4_cover 0 = .ok (.aload_n 0, 1) := by decide +kernel
theorem dX4_cover_1 : decode cX4_cover 1 = .ok (.iload_n 3, 1) := by decide +kernel
theorem dX4_cover_2 : decode cX4_cover 2 = .ok (.invokestatic 135, 3) := by decide +kernel
theorem dX4_cover_5 : decode cX4_cover 5 = .ok (.ifCond .ne 7, 3) := by decide +kernel
theorem dX4_cover_8 : decode cX4_cover 8 = .ok (.iconst 1, 1) := by decide +kernel
theorem dX4_cover_9 : decode cX4_cover 9 = .ok (.goto 17, 3) := by decide +kernel
theorem dX4_cover_12 : decode cX4_cover 12 = .ok (.aload_n 0, 1) := by decide +kernel
theorem dX4_cover_13 : decode cX4_cover 13 = .ok (.iload_n 1, 1) := by decide +kernel
theorem dX4_cover_14 : decode cX4_cover 14 = .ok (.iload_n 2, 1) := by decide +kernel
theorem dX4_cover_15 : decode cX4_cover 15 = .ok (.invokevirtual 160, 3) := by decide +kernel
theorem dX4_cover_18 : decode cX4_cover 18 = .ok (.ifCond .ne 7, 3) := by decide +kernel
theorem dX4_cover_21 : decode cX4_cover 21 = .ok (.iconst 2, 1) := by decide +kernel
theorem dX4_cover_22 : decode cX4_cover 22 = .ok (.goto 4, 3) := by decide +kernel
theorem dX4_cover_25 : decode cX4_cover 25 = .ok (.iconst 0, 1) := by decide +kernel
theorem dX4_cover_26 : decode cX4_cover 26 = .ok (.putfield 72, 3) := by decide +kernel
theorem dX4_cover_29 : decode cX4_cover 29 = .ok (.aload_n 0, 1) := by decide +kernel
theorem dX4_cover_30 : decode cX4_cover 30 = .ok (.getfield 72, 3) := by decide +kernel
theorem dX4_cover_33 : decode cX4_cover 33 = .ok (.ifCond .ne 15, 3) := by decide +kernel
theorem dX4_cover_36 : decode cX4_cover 36 = .ok (.aload_n 0, 1) := by decide +kernel
theorem dX4_cover_37 : decode cX4_cover 37 = .ok (.getfield 45, 3) := by decide +kernel
theorem dX4_cover_40 : decode cX4_cover 40 = .ok (.aload_n 0, 1) := by decide +kernel
theorem dX4_cover_41 : decode cX4_cover 41 = .ok (.iload_n 1, 1) := by decide +kernel
theorem dX4_cover_42 : decode cX4_cover 42 = .ok (.iload_n 2, 1) := by decide +kernel
theorem dX4_cover_43 : decode cX4_cover 43 = .ok (.invokevirtual 143, 3) := by decide +kernel
theorem dX4_cover_46 : decode cX4_cover 46 = .ok (.iload_n 3, 1) := by decide +kernel
theorem dX4_cover_47 : decode cX4_cover 47 = .ok (.iastore, 1) := by decide +kernel
theorem dX4_cover_48 : decode cX4_cover 48 = .ok (.return_, 1) := by decide +kernel
theorem dX4_fill_0 : decode cX4_fill 0 = .ok (.aload_n 0, 1) := by decide +kernel
theorem dX4_fill_1 : decode cX4_fill 1 = .ok (.iload 5, 2) := by decide +kernel
theorem dX4_fill_3 : decode cX4_fill 3 = .ok (.invokestatic 135, 3) := by decide +kernel
theorem dX4_fill_6 : decode cX4_fill 6 = .ok (.ifCond .eq 7, 3) := by decide +kernel
theorem dX4_fill_9 : decode cX4_fill 9 = .ok (.iconst 0, 1) := by decide +kernel
theorem dX4_fill_10 : decode cX4_fill 10 = .ok (.goto 4, 3) := by decide +kernel
theorem dX4_fill_13 : decode cX4_fill 13 = .ok (.iconst 1, 1) := by decide +kernel
theorem dX4_fill_14 : decode cX4_fill 14 = .ok (.putfield 72, 3) := by decide +kernel
theorem dX4_fill_17 : decode cX4_fill 17 = .ok (.iconst 0, 1) := by decide +kernel
theorem dX4_fill_18 : decode cX4_fill 18 = .ok (.istore 6, 2) := by decide +kernel
theorem dX4_fill_20 : decode cX4_fill 20 = .ok (.iload 6, 2) := by decide +kernel
theorem dX4_fill_22 : decode cX4_fill 22 = .ok (.aload_n 0, 1) := by decide +kernel
theorem dX4_fill_23 : decode cX4_fill 23 = .ok (.getfield 66, 3) := by decide +kernel
theorem dX4_fill_26 : decode cX4_fill 26 = .ok (.if_icmp .ge 74, 3) := by decide +kernel
theorem dX4_fill_29 : decode cX4_fill 29 = .ok (.aload_n 0, 1) := by decide +kernel
theorem dX4_fill_30 : decode cX4_fill 30 = .ok (.getfield 72, 3) := by decide +kernel
theorem dX4_fill_33 : decode cX4_fill 33 = .ok (.ifCond .ne 67, 3) := by decide +kernel
theorem dX4_fill_36 : decode cX4_fill 36 = .ok (.iconst 0, 1) := by decide +kernel
theorem dX4_fill_37 : decode cX4_fill 37 = .ok (.istore 7, 2) := by decide +kernel
theorem dX4_fill_39 : decode cX4_fill 39 = .ok (.iload 7, 2) := by decide +kernel
theorem dX4_fill_41 : decode cX4_fill 41 = .ok (.aload_n 0, 1) := by decide +kernel
theorem dX4_fill_42 : decode cX4_fill 42 = .ok (.getfield 69, 3) := by decide +kernel
theorem dX4_fill_45 : decode cX4_fill 45 = .ok (.if_icmp .ge 49, 3) := by decide +kernel
theorem dX4_fill_48 : decode cX4_fill 48 = .ok (.iload 6, 2) := by decide +kernel
theorem dX4_fill_50 : decode cX4_fill 50 = .ok (.iload_n 1, 1) := by decide +kernel
theorem dX4_fill_51 : decode cX4_fill 51 = .ok (.if_icmp .lt 37, 3) := by decide +kernel
theorem dX4_fill_54 : decode cX4_fill 54 = .ok (.iload 6, 2) := by decide +kernel
theorem dX4_fill_56 : decode cX4_fill 56 = .ok (.iload_n 3, 1) := by decide +kernel
theorem dX4_fill_57 : decode cX4_fill 57 = .ok (.if_icmp .gt 31, 3) := by decide +kernel
theorem dX4_fill_60 : decode cX4_fill 60 = .ok (.iload 7, 2) := by decide +kernel
theorem dX4_fill_62 : decode cX4_fill 62 = .ok (.iload_n 2, 1) := by decide +kernel
theorem dX4_fill_63 : decode cX4_fill 63 = .ok (.if_icmp .lt 25, 3) := by decide +kernel
theorem dX4_fill_66 : decode cX4_fill 66 = .ok (.iload 7, 2) := by decide +kernel
theorem dX4_fill_68 : decode cX4_fill 68 = .ok (.iload 4, 2) := by decide +kernel
theorem dX4_fill_70 : decode cX4_fill 70 = .ok (.if_icmp .gt 18, 3) := by decide +kernel
theorem dX4_fill_73 : decode cX4_fill 73 = .ok (.aload_n 0, 1) := by decide +kernel
theorem dX4_fill_74 : decode cX4_fill 74 = .ok (.getfield 45, 3) := by decide +kernel
theorem dX4_fill_77 : decode cX4_fill 77 = .ok (.aload_n 0, 1) := by decide +kernel
theorem dX4_fill_78 : decode cX4_fill 78 = .ok (.iload 6, 2) := by decide +kernel
theorem dX4_fill_80 : decode cX4_fill 80 = .ok (.iload 7, 2) := by decide +kernel
theorem dX4_fill_82 : decode cX4_fill 82 = .ok (.invokevirtual 143, 3) := by decide +kernel
theorem dX4_fill_85 : decode cX4_fill 85 = .ok (.iload 5, 2) := by decide +kernel
theorem dX4_fill_87 : decode cX4_fill 87 = .ok (.iastore, 1) := by decide +kernel
theorem dX4_fill_88 : decode cX4_fill 88 = .ok (.iinc 7 1, 3) := by decide +kernel
theorem dX4_fill_91 : decode cX4_fill 91 = .ok (.goto (-52), 3) := by decide +kernel
theorem dX4_fill_94 : decode cX4_fill 94 = .ok (.iinc 6 1, 3) := by decide +kernel
theorem dX4_fill_97 : decode cX4_fill 97 = .ok (.goto (-77), 3) := by decide +kernel
theorem dX4_fill_100 : decode cX4_fill 100 = .ok (.return_, 1) := by decide +kernel
theorem dX4_mark_0 : decode cX4_mark 0 = .ok (.aload_n 0, 1) := by decide +kernel
theorem dX4_mark_1 : decode cX4_mark 1 = .ok (.iload_n 1, 1) := by decide +kernel
theorem dX4_mark_2 : decode cX4_mark 2 = .ok (.ifCond .lt 23, 3) := by decide +kernel
theorem dX4_mark_5 : decode cX4_mark 5 = .ok (.iload_n 1, 1) := by decide +kernel
theorem dX4_mark_6 : decode cX4_mark 6 = .ok (.bipush 15, 2) := by decide +kernel
theorem dX4_mark_8 : decode cX4_mark 8 = .ok (.if_icmp .gt 17, 3) := by decide +kernel
theorem dX4_mark_11 : decode cX4_mark 11 = .ok (.iload_n 2, 1) := by decide +kernel
theorem dX4_mark_12 : decode cX4_mark 12 = .ok (.invokestatic 135, 3) := by decide +kernel
theorem dX4_mark_15 : decode cX4_mark 15 = .ok (.ifCond .eq 10, 3) := by decide +kernel
theorem dX4_mark_18 : decode cX4_mark 18 = .ok (.iload_n 3, 1) := by decide +kernel
theorem dX4_mark_19 : decode cX4_mark 19 = .ok (.invokestatic 135, 3) := by decide +kernel
theorem dX4_mark_22 : decode cX4_mark 22 = .ok (.ifCond .ne 7, 3) := by decide +kernel
theorem dX4_mark_25 : decode cX4_mark 25 = .ok (.iconst 1, 1) := by decide +kernel
theorem dX4_mark_26 : decode cX4_mark 26 = .ok (.goto 4, 3) := by decide +kernel
theorem dX4_mark_29 : decode cX4_mark 29 = .ok (.iconst 0, 1) := by decide +kernel
theorem dX4_mark_30 : decode cX4_mark 30 = .ok (.putfield 72, 3) := by decide +kernel
theorem dX4_mark_33 : decode cX4_mark 33 = .ok (.iconst 0, 1) := by decide +kernel
theorem dX4_mark_34 : decode cX4_mark 34 = .ok (.istore 4, 2) := by decide +kernel
theorem dX4_mark_36 : decode cX4_mark 36 = .ok (.aload_n 0, 1) := by decide +kernel
theorem dX4_mark_37 : decode cX4_mark 37 = .ok (.dup, 1) := by decide +kernel
theorem dX4_mark_38 : decode cX4_mark 38 = .ok (.getfield 132, 3) := by decide +kernel
theorem dX4_mark_41 : decode cX4_mark 41 = .ok (.aload_n 0, 1) := by decide +kernel
theorem dX4_mark_42 : decode cX4_mark 42 = .ok (.getfield 72, 3) := by decide +kernel
theorem dX4_mark_45 : decode cX4_mark 45 = .ok (.ifCond .ne 7, 3) := by decide +kernel
theorem dX4_mark_48 : decode cX4_mark 48 = .ok (.iconst 1, 1) := by decide +kernel
theorem dX4_mark_49 : decode cX4_mark 49 = .ok (.goto 4, 3) := by decide +kernel
theorem dX4_mark_52 : decode cX4_mark 52 = .ok (.iconst 0, 1) := by decide +kernel
theorem dX4_mark_53 : decode cX4_mark 53 = .ok (.iadd, 1) := by decide +kernel
theorem dX4_mark_54 : decode cX4_mark 54 = .ok (.putfield 132, 3) := by decide +kernel
theorem dX4_mark_57 : decode cX4_mark 57 = .ok (.iconst 0, 1) := by decide +kernel
theorem dX4_mark_58 : decode cX4_mark 58 = .ok (.istore 5, 2) := by decide +kernel
theorem dX4_mark_60 : decode cX4_mark 60 = .ok (.iload 5, 2) := by decide +kernel
theorem dX4_mark_62 : decode cX4_mark 62 = .ok (.aload_n 0, 1) := by decide +kernel
theorem dX4_mark_63 : decode cX4_mark 63 = .ok (.getfield 69, 3) := by decide +kernel
theorem dX4_mark_66 : decode cX4_mark 66 = .ok (.if_icmp .ge 130, 3) := by decide +kernel
theorem dX4_mark_69 : decode cX4_mark 69 = .ok (.aload_n 0, 1) := by decide +kernel
theorem dX4_mark_70 : decode cX4_mark 70 = .ok (.getfield 72, 3) := by decide +kernel
theorem dX4_mark_73 : decode cX4_mark 73 = .ok (.ifCond .ne 123, 3) := by decide +kernel
theorem dX4_mark_76 : decode cX4_mark 76 = .ok (.iconst 0, 1) := by decide +kernel
theorem dX4_mark_77 : decode cX4_mark 77 = .ok (.istore 6, 2) := by decide +kernel
theorem dX4_mark_79 : decode cX4_mark 79 = .ok (.iload 6, 2) := by decide +kernel
theorem dX4_mark_81 : decode cX4_mark 81 = .ok (.aload_n 0, 1) := by decide +kernel
theorem dX4_mark_82 : decode cX4_mark 82 = .ok (.getfield 66, 3) := by decide +kernel
theorem dX4_mark_85 : decode cX4_mark 85 = .ok (.if_icmp .ge 105, 3) := by decide +kernel
theorem dX4_mark_88 : decode cX4_mark 88 = .ok (.aload_n 0, 1) := by decide +kernel
theorem dX4_mark_89 : decode cX4_mark 89 = .ok (.iload 6, 2) := by decide +kernel
theorem dX4_mark_91 : decode cX4_mark 91 = .ok (.iload 5, 2) := by decide +kernel
theorem dX4_mark_93 : decode cX4_mark 93 = .ok (.invokevirtual 143, 3) := by decide +kernel
theorem dX4_mark_96 : decode cX4_mark 96 = .ok (.istore 7, 2) := by decide +kernel
theorem dX4_mark_98 : decode cX4_mark 98 = .ok (.aload_n 0, 1) := by decide +kernel
theorem dX4_mark_99 : decode cX4_mark 99 = .ok (.getfield 45, 3) := by decide +kernel
theorem dX4_mark_102 : decode cX4_mark 102 = .ok (.iload 7, 2) := by decide +kernel
theorem dX4_mark_104 : decode cX4_mark 104 = .ok (.iaload, 1) := by decide +kernel
theorem dX4_mark_105 : decode cX4_mark 105 = .ok (.iload_n 2, 1) := by decide +kernel
theorem dX4_mark_106 : decode cX4_mark 106 = .ok (.invokestatic 75, 3) := by decide +kernel
theorem dX4_mark_109 : decode cX4_mark 109 = .ok (.istore 8, 2) := by decide +kernel
theorem dX4_mark_111 : decode cX4_mark 111 = .ok (.aload_n 0, 1) := by decide +kernel
theorem dX4_mark_112 : decode cX4_mark 112 = .ok (.iload 8, 2) := by decide +kernel
theorem dX4_mark_114 : decode cX4_mark 114 = .ok (.iload_n 3, 1) := by decide +kernel
theorem dX4_mark_115 : decode cX4_mark 115 = .ok (.invokestatic 75, 3) := by decide +kernel
theorem dX4_mark_118 : decode cX4_mark 118 = .ok (.iload 7, 2) := by decide +kernel
theorem dX4_mark_120 : decode cX4_mark 120 = .ok (.invokevirtual 150, 3) := by decide +kernel
theorem dX4_mark_123 : decode cX4_mark 123 = .ok (.istore 9, 2) := by decide +kernel
theorem dX4_mark_125 : decode cX4_mark 125 = .ok (.iload 4, 2) := by decide +kernel
theorem dX4_mark_127 : decode cX4_mark 127 = .ok (.iload 9, 2) := by decide +kernel
theorem dX4_mark_129 : decode cX4_mark 129 = .ok (.ifCond .le 7, 3) := by decide +kernel
theorem dX4_mark_132 : decode cX4_mark 132 = .ok (.iconst 1, 1) := by decide +kernel
theorem dX4_mark_133 : decode cX4_mark 133 = .ok (.goto 4, 3) := by decide +kernel
theorem dX4_mark_136 : decode cX4_mark 136 = .ok (.iconst 0, 1) := by decide +kernel
theorem dX4_mark_137 : decode cX4_mark 137 = .ok (.iadd, 1) := by decide +kernel
theorem dX4_mark_138 : decode cX4_mark 138 = .ok (.istore 4, 2) := by decide +kernel
theorem dX4_mark_140 : decode cX4_mark 140 = .ok (.iconst 0, 1) := by decide +kernel
theorem dX4_mark_141 : decode cX4_mark 141 = .ok (.istore 10, 2) := by decide +kernel
theorem dX4_mark_143 : decode cX4_mark 143 = .ok (.iload 10, 2) := by decide +kernel
theorem dX4_mark_145 : decode cX4_mark 145 = .ok (.iconst 3, 1) := by decide +kernel
theorem dX4_mark_146 : decode cX4_mark 146 = .ok (.if_icmp .ge 23, 3) := by decide +kernel
theorem dX4_mark_149 : decode cX4_mark 149 = .ok (.aload_n 0, 1) := by decide +kernel
theorem dX4_mark_150 : decode cX4_mark 150 = .ok (.getfield 54, 3) := by decide +kernel
theorem dX4_mark_153 : decode cX4_mark 153 = .ok (.iload 10, 2) := by decide +kernel
theorem dX4_mark_155 : decode cX4_mark 155 = .ok (.aload_n 0, 1) := by decide +kernel
theorem dX4_mark_156 : decode cX4_mark 156 = .ok (.getfield 48, 3) := by decide +kernel
theorem dX4_mark_159 : decode cX4_mark 159 = .ok (.iload 10, 2) := by decide +kernel
theorem dX4_mark_161 : decode cX4_mark 161 = .ok (.iaload, 1) := by decide +kernel
theorem dX4_mark_162 : decode cX4_mark 162 = .ok (.iastore, 1) := by decide +kernel
theorem dX4_mark_163 : decode cX4_mark 163 = .ok (.iinc 10 1, 3) := by decide +kernel
theorem dX4_mark_166 : decode cX4_mark 166 = .ok (.goto (-23), 3) := by decide +kernel
theorem dX4_mark_169 : decode cX4_mark 169 = .ok (.aload_n 0, 1) := by decide +kernel
theorem dX4_mark_170 : decode cX4_mark 170 = .ok (.aload_n 0, 1) := by decide +kernel
theorem dX4_mark_171 : decode cX4_mark 171 = .ok (.invokevirtual 164, 3) := by decide +kernel
theorem dX4_mark_174 : decode cX4_mark 174 = .ok (.iload 7, 2) := by decide +kernel
theorem dX4_mark_176 : decode cX4_mark 176 = .ok (.iload_n 1, 1) := by decide +kernel
theorem dX4_mark_177 : decode cX4_mark 177 = .ok (.iload 8, 2) := by decide +kernel
theorem dX4_mark_179 : decode cX4_mark 179 = .ok (.iload 9, 2) := by decide +kernel
theorem dX4_mark_181 : decode cX4_mark 181 = .ok (.invokevirtual 153, 3) := by decide +kernel
theorem dX4_mark_184 : decode cX4_mark 184 = .ok (.iinc 6 1, 3) := by decide +kernel
theorem dX4_mark_187 : decode cX4_mark 187 = .ok (.goto (-108), 3) := by decide +kernel
theorem dX4_mark_190 : decode cX4_mark 190 = .ok (.iinc 5 1, 3) := by decide +kernel
theorem dX4_mark_193 : decode cX4_mark 193 = .ok (.goto (-133), 3) := by decide +kernel
theorem dX4_mark_196 : decode cX4_mark 196 = .ok (.iload 4, 2) := by decide +kernel
theorem dX4_mark_198 : decode cX4_mark 198 = .ok (.ireturn, 1) := by decide +kernel
theorem dX4_point_0 : decode cX4_point 0 = .ok (.aload_n 0, 1) := by decide +kernel
theorem dX4_point_1 : decode cX4_point 1 = .ok (.aload_n 0, 1) := by decide +kernel
theorem dX4_point_2 : decode cX4_point 2 = .ok (.iload_n 1, 1) := by decide +kernel
theorem dX4_point_3 : decode cX4_point 3 = .ok (.iload_n 2, 1) := by decide +kernel
theorem dX4_point_4 : decode cX4_point 4 = .ok (.invokevirtual 160, 3) := by decide +kernel
theorem dX4_point_7 : decode cX4_point 7 = .ok (.ifCond .eq 14, 3) := by decide +kernel
theorem dX4_point_10 : decode cX4_point 10 = .ok (.iload_n 3, 1) := by decide +kernel
theorem dX4_point_11 : decode cX4_point 11 = .ok (.invokestatic 157, 3) := by decide +kernel
theorem dX4_point_14 : decode cX4_point 14 = .ok (.ifCond .eq 7, 3) := by decide +kernel
theorem dX4_point_17 : decode cX4_point 17 = .ok (.iconst 0, 1) := by decide +kernel
theorem dX4_point_18 : decode cX4_point 18 = .ok (.goto 4, 3) := by decide +kernel
theorem dX4_point_21 : decode cX4_point 21 = .ok (.iconst 1, 1) := by decide +kernel
theorem dX4_point_22 : decode cX4_point 22 = .ok (.putfield 72, 3) := by decide +kernel
theorem dX4_point_25 : decode cX4_point 25 = .ok (.aload_n 0, 1) := by decide +kernel
theorem dX4_point_26 : decode cX4_point 26 = .ok (.getfield 72, 3) := by decide +kernel
theorem dX4_point_29 : decode cX4_point 29 = .ok (.ifCond .le 7, 3) := by decide +kernel
theorem dX4_point_32 : decode cX4_point 32 = .ok (.iconst 0, 1) := by decide +kernel
theorem dX4_point_33 : decode cX4_point 33 = .ok (.goto 27, 3) := by decide +kernel
theorem dX4_point_36 : decode cX4_point 36 = .ok (.aload_n 0, 1) := by decide +kernel
theorem dX4_point_37 : decode cX4_point 37 = .ok (.getfield 33, 3) := by decide +kernel
theorem dX4_point_40 : decode cX4_point 40 = .ok (.sipush 432, 3) := by decide +kernel
theorem dX4_point_43 : decode cX4_point 43 = .ok (.aload_n 0, 1) := by decide +kernel
theorem dX4_point_44 : decode cX4_point 44 = .ok (.invokevirtual 164, 3) := by decide +kernel
theorem dX4_point_47 : decode cX4_point 47 = .ok (.imul, 1) := by decide +kernel
theorem dX4_point_48 : decode cX4_point 48 = .ok (.iconst 3, 1) := by decide +kernel
theorem dX4_point_49 : decode cX4_point 49 = .ok (.aload_n 0, 1) := by decide +kernel
theorem dX4_point_50 : decode cX4_point 50 = .ok (.iload_n 1, 1) := by decide +kernel
theorem dX4_point_51 : decode cX4_point 51 = .ok (.iload_n 2, 1) := by decide +kernel
theorem dX4_point_52 : decode cX4_point 52 = .ok (.invokevirtual 143, 3) := by decide +kernel
theorem dX4_point_55 : decode cX4_point 55 = .ok (.imul, 1) := by decide +kernel
theorem dX4_point_56 : decode cX4_point 56 = .ok (.iadd, 1) := by decide +kernel
theorem dX4_point_57 : decode cX4_point 57 = .ok (.iload_n 3, 1) := by decide +kernel
theorem dX4_point_58 : decode cX4_point 58 = .ok (.iadd, 1) := by decide +kernel
theorem dX4_point_59 : decode cX4_point 59 = .ok (.iaload, 1) := by decide +kernel
theorem dX4_point_60 : decode cX4_point 60 = .ok (.ireturn, 1) := by decide +kernel
theorem dX4_alpha_0 : decode cX4_alpha 0 = .ok (.aload_n 0, 1) := by decide +kernel
theorem dX4_alpha_1 : decode cX4_alpha 1 = .ok (.aload_n 0, 1) := by decide +kernel
theorem dX4_alpha_2 : decode cX4_alpha 2 = .ok (.iload_n 1, 1) := by decide +kernel
theorem dX4_alpha_3 : decode cX4_alpha 3 = .ok (.iload_n 2, 1) := by decide +kernel
theorem dX4_alpha_4 : decode cX4_alpha 4 = .ok (.invokevirtual 160, 3) := by decide +kernel
theorem dX4_alpha_7 : decode cX4_alpha 7 = .ok (.ifCond .ne 7, 3) := by decide +kernel
theorem dX4_alpha_10 : decode cX4_alpha 10 = .ok (.iconst 1, 1) := by decide +kernel
theorem dX4_alpha_11 : decode cX4_alpha 11 = .ok (.goto 17, 3) := by decide +kernel
theorem dX4_alpha_14 : decode cX4_alpha 14 = .ok (.iload_n 3, 1) := by decide +kernel
theorem dX4_alpha_15 : decode cX4_alpha 15 = .ok (.ifCond .lt 8, 3) := by decide +kernel
theorem dX4_alpha_18 : decode cX4_alpha 18 = .ok (.iload_n 3, 1) := by decide +kernel
theorem dX4_alpha_19 : decode cX4_alpha 19 = .ok (.iconst 4, 1) := by decide +kernel
theorem dX4_alpha_20 : decode cX4_alpha 20 = .ok (.if_icmp .le 7, 3) := by decide +kernel
theorem dX4_alpha_23 : decode cX4_alpha 23 = .ok (.iconst 2, 1) := by decide +kernel
theorem dX4_alpha_24 : decode cX4_alpha 24 = .ok (.goto 4, 3) := by decide +kernel
theorem dX4_alpha_27 : decode cX4_alpha 27 = .ok (.iconst 0, 1) := by decide +kernel
theorem dX4_alpha_28 : decode cX4_alpha 28 = .ok (.putfield 72, 3) := by decide +kernel
theorem dX4_alpha_31 : decode cX4_alpha 31 = .ok (.aload_n 0, 1) := by decide +kernel
theorem dX4_alpha_32 : decode cX4_alpha 32 = .ok (.getfield 72, 3) := by decide +kernel
theorem dX4_alpha_35 : decode cX4_alpha 35 = .ok (.ifCond .le 5, 3) := by decide +kernel
theorem dX4_alpha_38 : decode cX4_alpha 38 = .ok (.iconst 0, 1) := by decide +kernel
theorem dX4_alpha_39 : decode cX4_alpha 39 = .ok (.ireturn, 1) := by decide +kernel
theorem dX4_alpha_40 : decode cX4_alpha 40 = .ok (.aload_n 0, 1) := by decide +kernel
theorem dX4_alpha_41 : decode cX4_alpha 41 = .ok (.iload_n 1, 1) := by decide +kernel
theorem dX4_alpha_42 : decode cX4_alpha 42 = .ok (.iload_n 2, 1) := by decide +kernel
theorem dX4_alpha_43 : decode cX4_alpha 43 = .ok (.invokevirtual 143, 3) := by decide +kernel
theorem dX4_alpha_46 : decode cX4_alpha 46 = .ok (.istore 4, 2) := by decide +kernel
theorem dX4_alpha_48 : decode cX4_alpha 48 = .ok (.sipush 144, 3) := by decide +kernel
theorem dX4_alpha_51 : decode cX4_alpha 51 = .ok (.aload_n 0, 1) := by decide +kernel
theorem dX4_alpha_52 : decode cX4_alpha 52 = .ok (.invokevirtual 164, 3) := by decide +kernel
theorem dX4_alpha_55 : decode cX4_alpha 55 = .ok (.imul, 1) := by decide +kernel
theorem dX4_alpha_56 : decode cX4_alpha 56 = .ok (.iload 4, 2) := by decide +kernel
theorem dX4_alpha_58 : decode cX4_alpha 58 = .ok (.iadd, 1) := by decide +kernel
theorem dX4_alpha_59 : decode cX4_alpha 59 = .ok (.istore 5, 2) := by decide +kernel
theorem dX4_alpha_61 : decode cX4_alpha 61 = .ok (.iload_n 3, 1) := by decide +kernel
theorem dX4_alpha_62 : decode cX4_alpha 62 = .ok (.iconst 3, 1) := by decide +kernel
theorem dX4_alpha_63 : decode cX4_alpha 63 = .ok (.if_icmp .ge 43, 3) := by decide +kernel
theorem dX4_alpha_66 : decode cX4_alpha 66 = .ok (.iload_n 3, 1) := by decide +kernel
theorem dX4_alpha_67 : decode cX4_alpha 67 = .ok (.ifCond .ne 13, 3) := by decide +kernel
theorem dX4_alpha_70 : decode cX4_alpha 70 = .ok (.aload_n 0, 1) := by decide +kernel
theorem dX4_alpha_71 : decode cX4_alpha 71 = .ok (.getfield 36, 3) := by decide +kernel
theorem dX4_alpha_74 : decode cX4_alpha 74 = .ok (.iload 5, 2) := by decide +kernel
theorem dX4_alpha_76 : decode cX4_alpha 76 = .ok (.iaload, 1) := by decide +kernel
theorem dX4_alpha_77 : decode cX4_alpha 77 = .ok (.goto 28, 3) := by decide +kernel
theorem dX4_alpha_80 : decode cX4_alpha 80 = .ok (.iload_n 3, 1) := by decide +kernel
theorem dX4_alpha_81 : decode cX4_alpha 81 = .ok (.iconst 1, 1) := by decide +kernel
theorem dX4_alpha_82 : decode cX4_alpha 82 = .ok (.if_icmp .ne 13, 3) := by decide +kernel
theorem dX4_alpha_85 : decode cX4_alpha 85 = .ok (.aload_n 0, 1) := by decide +kernel
theorem dX4_alpha_86 : decode cX4_alpha 86 = .ok (.getfield 39, 3) := by decide +kernel
theorem dX4_alpha_89 : decode cX4_alpha 89 = .ok (.iload 5, 2) := by decide +kernel
theorem dX4_alpha_91 : decode cX4_alpha 91 = .ok (.iaload, 1) := by decide +kernel
theorem dX4_alpha_92 : decode cX4_alpha 92 = .ok (.goto 13, 3) := by decide +kernel
theorem dX4_alpha_95 : decode cX4_alpha 95 = .ok (.aload_n 0, 1) := by decide +kernel
theorem dX4_alpha_96 : decode cX4_alpha 96 = .ok (.aload_n 0, 1) := by decide +kernel
theorem dX4_alpha_97 : decode cX4_alpha 97 = .ok (.invokevirtual 164, 3) := by decide +kernel
theorem dX4_alpha_100 : decode cX4_alpha 100 = .ok (.iload 4, 2) := by decide +kernel
theorem dX4_alpha_102 : decode cX4_alpha 102 = .ok (.invokevirtual 126, 3) := by decide +kernel
theorem dX4_alpha_105 : decode cX4_alpha 105 = .ok (.ireturn, 1) := by decide +kernel
theorem dX4_alpha_106 : decode cX4_alpha 106 = .ok (.iload_n 3, 1) := by decide +kernel
theorem dX4_alpha_107 : decode cX4_alpha 107 = .ok (.iconst 4, 1) := by decide +kernel
theorem dX4_alpha_108 : decode cX4_alpha 108 = .ok (.if_icmp .ne 13, 3) := by decide +kernel
theorem dX4_alpha_111 : decode cX4_alpha 111 = .ok (.aload_n 0, 1) := by decide +kernel
theorem dX4_alpha_112 : decode cX4_alpha 112 = .ok (.getfield 45, 3) := by decide +kernel
theorem dX4_alpha_115 : decode cX4_alpha 115 = .ok (.iload 4, 2) := by decide +kernel
theorem dX4_alpha_117 : decode cX4_alpha 117 = .ok (.iaload, 1) := by decide +kernel
theorem dX4_alpha_118 : decode cX4_alpha 118 = .ok (.goto 23, 3) := by decide +kernel
theorem dX4_alpha_121 : decode cX4_alpha 121 = .ok (.aload_n 0, 1) := by decide +kernel
theorem dX4_alpha_122 : decode cX4_alpha 122 = .ok (.getfield 122, 3) := by decide +kernel
theorem dX4_alpha_125 : decode cX4_alpha 125 = .ok (.ifCond .eq 13, 3) := by decide +kernel
theorem dX4_alpha_128 : decode cX4_alpha 128 = .ok (.aload_n 0, 1) := by decide +kernel
theorem dX4_alpha_129 : decode cX4_alpha 129 = .ok (.getfield 42, 3) := by decide +kernel
theorem dX4_alpha_132 : decode cX4_alpha 132 = .ok (.iload 4, 2) := by decide +kernel
theorem dX4_alpha_134 : decode cX4_alpha 134 = .ok (.iaload, 1) := by decide +kernel
theorem dX4_alpha_135 : decode cX4_alpha 135 = .ok (.goto 6, 3) := by decide +kernel
theorem dX4_alpha_138 : decode cX4_alpha 138 = .ok (.sipush 255, 3) := by decide +kernel
theorem dX4_alpha_141 : decode cX4_alpha 141 = .ok (.ireturn, 1) := by decide +kernel
theorem dX4_paper_0 : decode cX4_paper 0 = .ok (.aload_n 0, 1) := by decide +kernel
theorem dX4_paper_1 : decode cX4_paper 1 = .ok (.aload_n 0, 1) := by decide +kernel
theorem dX4_paper_2 : decode cX4_paper 2 = .ok (.iload_n 1, 1) := by decide +kernel
theorem dX4_paper_3 : decode cX4_paper 3 = .ok (.iload_n 2, 1) := by decide +kernel
theorem dX4_paper_4 : decode cX4_paper 4 = .ok (.invokevirtual 160, 3) := by decide +kernel
theorem dX4_paper_7 : decode cX4_paper 7 = .ok (.ifCond .eq 14, 3) := by decide +kernel
theorem dX4_paper_10 : decode cX4_paper 10 = .ok (.iload_n 3, 1) := by decide +kernel
theorem dX4_paper_11 : decode cX4_paper 11 = .ok (.invokestatic 157, 3) := by decide +kernel
theorem dX4_paper_14 : decode cX4_paper 14 = .ok (.ifCond .eq 7, 3) := by decide +kernel
theorem dX4_paper_17 : decode cX4_paper 17 = .ok (.iconst 0, 1) := by decide +kernel
theorem dX4_paper_18 : decode cX4_paper 18 = .ok (.goto 4, 3) := by decide +kernel
theorem dX4_paper_21 : decode cX4_paper 21 = .ok (.iconst 1, 1) := by decide +kernel
theorem dX4_paper_22 : decode cX4_paper 22 = .ok (.putfield 72, 3) := by decide +kernel
theorem dX4_paper_25 : decode cX4_paper 25 = .ok (.aload_n 0, 1) := by decide +kernel
theorem dX4_paper_26 : decode cX4_paper 26 = .ok (.getfield 72, 3) := by decide +kernel
theorem dX4_paper_29 : decode cX4_paper 29 = .ok (.ifCond .le 5, 3) := by decide +kernel
theorem dX4_paper_32 : decode cX4_paper 32 = .ok (.iconst 0, 1) := by decide +kernel
theorem dX4_paper_33 : decode cX4_paper 33 = .ok (.ireturn, 1) := by decide +kernel
theorem dX4_paper_34 : decode cX4_paper 34 = .ok (.aload_n 0, 1) := by decide +kernel
theorem dX4_paper_35 : decode cX4_paper 35 = .ok (.aload_n 0, 1) := by decide +kernel
theorem dX4_paper_36 : decode cX4_paper 36 = .ok (.invokevirtual 164, 3) := by decide +kernel
theorem dX4_paper_39 : decode cX4_paper 39 = .ok (.aload_n 0, 1) := by decide +kernel
theorem dX4_paper_40 : decode cX4_paper 40 = .ok (.iload_n 1, 1) := by decide +kernel
theorem dX4_paper_41 : decode cX4_paper 41 = .ok (.iload_n 2, 1) := by decide +kernel
theorem dX4_paper_42 : decode cX4_paper 42 = .ok (.invokevirtual 143, 3) := by decide +kernel
theorem dX4_paper_45 : decode cX4_paper 45 = .ok (.invokevirtual 126, 3) := by decide +kernel
theorem dX4_paper_48 : decode cX4_paper 48 = .ok (.istore 4, 2) := by decide +kernel
theorem dX4_paper_50 : decode cX4_paper 50 = .ok (.aload_n 0, 1) := by decide +kernel
theorem dX4_paper_51 : decode cX4_paper 51 = .ok (.getfield 33, 3) := by decide +kernel
theorem dX4_paper_54 : decode cX4_paper 54 = .ok (.sipush 432, 3) := by decide +kernel
theorem dX4_paper_57 : decode cX4_paper 57 = .ok (.aload_n 0, 1) := by decide +kernel
theorem dX4_paper_58 : decode cX4_paper 58 = .ok (.invokevirtual 164, 3) := by decide +kernel
theorem dX4_paper_61 : decode cX4_paper 61 = .ok (.imul, 1) := by decide +kernel
theorem dX4_paper_62 : decode cX4_paper 62 = .ok (.iconst 3, 1) := by decide +kernel
theorem dX4_paper_63 : decode cX4_paper 63 = .ok (.aload_n 0, 1) := by decide +kernel
theorem dX4_paper_64 : decode cX4_paper 64 = .ok (.iload_n 1, 1) := by decide +kernel
theorem dX4_paper_65 : decode cX4_paper 65 = .ok (.iload_n 2, 1) := by decide +kernel
theorem dX4_paper_66 : decode cX4_paper 66 = .ok (.invokevirtual 143, 3) := by decide +kernel
theorem dX4_paper_69 : decode cX4_paper 69 = .ok (.imul, 1) := by decide +kernel
theorem dX4_paper_70 : decode cX4_paper 70 = .ok (.iadd, 1) := by decide +kernel
theorem dX4_paper_71 : decode cX4_paper 71 = .ok (.iload_n 3, 1) := by decide +kernel
theorem dX4_paper_72 : decode cX4_paper 72 = .ok (.iadd, 1) := by decide +kernel
theorem dX4_paper_73 : decode cX4_paper 73 = .ok (.iaload, 1) := by decide +kernel
theorem dX4_paper_74 : decode cX4_paper 74 = .ok (.iload 4, 2) := by decide +kernel
theorem dX4_paper_76 : decode cX4_paper 76 = .ok (.invokestatic 75, 3) := by decide +kernel
theorem dX4_paper_79 : decode cX4_paper 79 = .ok (.sipush 255, 3) := by decide +kernel
theorem dX4_paper_82 : decode cX4_paper 82 = .ok (.iadd, 1) := by decide +kernel
theorem dX4_paper_83 : decode cX4_paper 83 = .ok (.iload 4, 2) := by decide +kernel
theorem dX4_paper_85 : decode cX4_paper 85 = .ok (.isub, 1) := by decide +kernel
theorem dX4_paper_86 : decode cX4_paper 86 = .ok (.ireturn, 1) := by decide +kernel
theorem dX4_separable_0 : decode cX4_separable 0 = .ok (.aload_n 0, 1) := by decide +kernel
theorem dX4_separable_1 : decode cX4_separable 1 = .ok (.iload_n 1, 1) := by decide +kernel
theorem dX4_separable_2 : decode cX4_separable 2 = .ok (.ifCond .lt 23, 3) := by decide +kernel
theorem dX4_separable_5 : decode cX4_separable 5 = .ok (.iload_n 1, 1) := by decide +kernel
theorem dX4_separable_6 : decode cX4_separable 6 = .ok (.bipush 11, 2) := by decide +kernel
theorem dX4_separable_8 : decode cX4_separable 8 = .ok (.if_icmp .gt 17, 3) := by decide +kernel
theorem dX4_separable_11 : decode cX4_separable 11 = .ok (.iload_n 2, 1) := by decide +kernel
theorem dX4_separable_12 : decode cX4_separable 12 = .ok (.invokestatic 135, 3) := by decide +kernel
theorem dX4_separable_15 : decode cX4_separable 15 = .ok (.ifCond .eq 10, 3) := by decide +kernel
theorem dX4_separable_18 : decode cX4_separable 18 = .ok (.iload_n 3, 1) := by decide +kernel
theorem dX4_separable_19 : decode cX4_separable 19 = .ok (.invokestatic 135, 3) := by decide +kernel
theorem dX4_separable_22 : decode cX4_separable 22 = .ok (.ifCond .ne 7, 3) := by decide +kernel
theorem dX4_separable_25 : decode cX4_separable 25 = .ok (.iconst 1, 1) := by decide +kernel
theorem dX4_separable_26 : decode cX4_separable 26 = .ok (.goto 4, 3) := by decide +kernel
theorem dX4_separable_29 : decode cX4_separable 29 = .ok (.iconst 0, 1) := by decide +kernel
theorem dX4_separable_30 : decode cX4_separable 30 = .ok (.putfield 72, 3) := by decide +kernel
theorem dX4_separable_33 : decode cX4_separable 33 = .ok (.aload_n 0, 1) := by decide +kernel
theorem dX4_separable_34 : decode cX4_separable 34 = .ok (.getfield 72, 3) := by decide +kernel
theorem dX4_separable_37 : decode cX4_separable 37 = .ok (.ifCond .le 7, 3) := by decide +kernel
theorem dX4_separable_40 : decode cX4_separable 40 = .ok (.iconst 0, 1) := by decide +kernel
theorem dX4_separable_41 : decode cX4_separable 41 = .ok (.goto 9, 3) := by decide +kernel
theorem dX4_separable_44 : decode cX4_separable 44 = .ok (.iload_n 1, 1) := by decide +kernel
theorem dX4_separable_45 : decode cX4_separable 45 = .ok (.iload_n 2, 1) := by decide +kernel
theorem dX4_separable_46 : decode cX4_separable 46 = .ok (.iload_n 3, 1) := by decide +kernel
theorem dX4_separable_47 : decode cX4_separable 47 = .ok (.invokestatic 107, 3) := by decide +kernel
theorem dX4_separable_50 : decode cX4_separable 50 = .ok (.ireturn, 1) := by decide +kernel
theorem dX4_blend_0 : decode cX4_blend 0 = .ok (.iload_n 1, 1) := by decide +kernel
theorem dX4_blend_1 : decode cX4_blend 1 = .ok (.ifCond .lt 33, 3) := by decide +kernel
theorem dX4_blend_4 : decode cX4_blend 4 = .ok (.iload_n 1, 1) := by decide +kernel
theorem dX4_blend_5 : decode cX4_blend 5 = .ok (.bipush 15, 2) := by decide +kernel
theorem dX4_blend_7 : decode cX4_blend 7 = .ok (.if_icmp .gt 27, 3) := by decide +kernel
theorem dX4_blend_10 : decode cX4_blend 10 = .ok (.iload_n 2, 1) := by decide +kernel
theorem dX4_blend_11 : decode cX4_blend 11 = .ok (.ifCond .lt 23, 3) := by decide +kernel
theorem dX4_blend_14 : decode cX4_blend 14 = .ok (.iload_n 2, 1) := by decide +kernel
theorem dX4_blend_15 : decode cX4_blend 15 = .ok (.ldc 167, 2) := by decide +kernel
theorem dX4_blend_17 : decode cX4_blend 17 = .ok (.if_icmp .gt 17, 3) := by decide +kernel
theorem dX4_blend_20 : decode cX4_blend 20 = .ok (.iload_n 3, 1) := by decide +kernel
theorem dX4_blend_21 : decode cX4_blend 21 = .ok (.ifCond .lt 13, 3) := by decide +kernel
theorem dX4_blend_24 : decode cX4_blend 24 = .ok (.iload_n 3, 1) := by decide +kernel
theorem dX4_blend_25 : decode cX4_blend 25 = .ok (.ldc 167, 2) := by decide +kernel
theorem dX4_blend_27 : decode cX4_blend 27 = .ok (.if_icmp .gt 7, 3) := by decide +kernel
theorem dX4_blend_30 : decode cX4_blend 30 = .ok (.iconst 1, 1) := by decide +kernel
theorem dX4_blend_31 : decode cX4_blend 31 = .ok (.goto 4, 3) := by decide +kernel
theorem dX4_blend_34 : decode cX4_blend 34 = .ok (.iconst 0, 1) := by decide +kernel
theorem dX4_blend_35 : decode cX4_blend 35 = .ok (.istore 4, 2) := by decide +kernel
theorem dX4_blend_37 : decode cX4_blend 37 = .ok (.aload_n 0, 1) := by decide +kernel
theorem dX4_blend_38 : decode cX4_blend 38 = .ok (.iload 4, 2) := by decide +kernel
theorem dX4_blend_40 : decode cX4_blend 40 = .ok (.ifCond .eq 7, 3) := by decide +kernel
theorem dX4_blend_43 : decode cX4_blend 43 = .ok (.iconst 0, 1) := by decide +kernel
theorem dX4_blend_44 : decode cX4_blend 44 = .ok (.goto 4, 3) := by decide +kernel
theorem dX4_blend_47 : decode cX4_blend 47 = .ok (.iconst 1, 1) := by decide +kernel
theorem dX4_blend_48 : decode cX4_blend 48 = .ok (.putfield 72, 3) := by decide +kernel
theorem dX4_blend_51 : decode cX4_blend 51 = .ok (.aload_n 0, 1) := by decide +kernel
theorem dX4_blend_52 : decode cX4_blend 52 = .ok (.getfield 72, 3) := by decide +kernel
theorem dX4_blend_55 : decode cX4_blend 55 = .ok (.ifCond .le 5, 3) := by decide +kernel
theorem dX4_blend_58 : decode cX4_blend 58 = .ok (.iconst 0, 1) := by decide +kernel
theorem dX4_blend_59 : decode cX4_blend 59 = .ok (.ireturn, 1) := by decide +kernel
theorem dX4_blend_60 : decode cX4_blend 60 = .ok (.iconst 0, 1) := by decide +kernel
theorem dX4_blend_61 : decode cX4_blend 61 = .ok (.istore 5, 2) := by decide +kernel
theorem dX4_blend_63 : decode cX4_blend 63 = .ok (.iload 5, 2) := by decide +kernel
theorem dX4_blend_65 : decode cX4_blend 65 = .ok (.iconst 3, 1) := by decide +kernel
theorem dX4_blend_66 : decode cX4_blend 66 = .ok (.if_icmp .ge 45, 3) := by decide +kernel
theorem dX4_blend_69 : decode cX4_blend 69 = .ok (.aload_n 0, 1) := by decide +kernel
theorem dX4_blend_70 : decode cX4_blend 70 = .ok (.getfield 57, 3) := by decide +kernel
theorem dX4_blend_73 : decode cX4_blend 73 = .ok (.iload 5, 2) := by decide +kernel
theorem dX4_blend_75 : decode cX4_blend 75 = .ok (.iload_n 2, 1) := by decide +kernel
theorem dX4_blend_76 : decode cX4_blend 76 = .ok (.bipush 8, 2) := by decide +kernel
theorem dX4_blend_78 : decode cX4_blend 78 = .ok (.iload 5, 2) := by decide +kernel
theorem dX4_blend_80 : decode cX4_blend 80 = .ok (.imul, 1) := by decide +kernel
theorem dX4_blend_81 : decode cX4_blend 81 = .ok (.ishr, 1) := by decide +kernel
theorem dX4_blend_82 : decode cX4_blend 82 = .ok (.sipush 255, 3) := by decide +kernel
theorem dX4_blend_85 : decode cX4_blend 85 = .ok (.iand, 1) := by decide +kernel
theorem dX4_blend_86 : decode cX4_blend 86 = .ok (.iastore, 1) := by decide +kernel
theorem dX4_blend_87 : decode cX4_blend 87 = .ok (.aload_n 0, 1) := by decide +kernel
theorem dX4_blend_88 : decode cX4_blend 88 = .ok (.getfield 54, 3) := by decide +kernel
theorem dX4_blend_91 : decode cX4_blend 91 = .ok (.iload 5, 2) := by decide +kernel
theorem dX4_blend_93 : decode cX4_blend 93 = .ok (.iload_n 3, 1) := by decide +kernel
theorem dX4_blend_94 : decode cX4_blend 94 = .ok (.bipush 8, 2) := by decide +kernel
theorem dX4_blend_96 : decode cX4_blend 96 = .ok (.iload 5, 2) := by decide +kernel
theorem dX4_blend_98 : decode cX4_blend 98 = .ok (.imul, 1) := by decide +kernel
theorem dX4_blend_99 : decode cX4_blend 99 = .ok (.ishr, 1) := by decide +kernel
theorem dX4_blend_100 : decode cX4_blend 100 = .ok (.sipush 255, 3) := by decide +kernel
theorem dX4_blend_103 : decode cX4_blend 103 = .ok (.iand, 1) := by decide +kernel
theorem dX4_blend_104 : decode cX4_blend 104 = .ok (.iastore, 1) := by decide +kernel
theorem dX4_blend_105 : decode cX4_blend 105 = .ok (.iinc 5 1, 3) := by decide +kernel
theorem dX4_blend_108 : decode cX4_blend 108 = .ok (.goto (-45), 3) := by decide +kernel
theorem dX4_blend_111 : decode cX4_blend 111 = .ok (.aload_n 0, 1) := by decide +kernel
theorem dX4_blend_112 : decode cX4_blend 112 = .ok (.iload_n 1, 1) := by decide +kernel
theorem dX4_blend_113 : decode cX4_blend 113 = .ok (.invokevirtual 129, 3) := by decide +kernel
theorem dX4_blend_116 : decode cX4_blend 116 = .ok (.aload_n 0, 1) := by decide +kernel
theorem dX4_blend_117 : decode cX4_blend 117 = .ok (.getfield 60, 3) := by decide +kernel
theorem dX4_blend_120 : decode cX4_blend 120 = .ok (.iconst 0, 1) := by decide +kernel
theorem dX4_blend_121 : decode cX4_blend 121 = .ok (.iaload, 1) := by decide +kernel
theorem dX4_blend_122 : decode cX4_blend 122 = .ok (.aload_n 0, 1) := by decide +kernel
theorem dX4_blend_123 : decode cX4_blend 123 = .ok (.getfield 60, 3) := by decide +kernel
theorem dX4_blend_126 : decode cX4_blend 126 = .ok (.iconst 1, 1) := by decide +kernel
theorem dX4_blend_127 : decode cX4_blend 127 = .ok (.iaload, 1) := by decide +kernel
theorem dX4_blend_128 : decode cX4_blend 128 = .ok (.bipush 8, 2) := by decide +kernel
theorem dX4_blend_130 : decode cX4_blend 130 = .ok (.ishl, 1) := by decide +kernel
theorem dX4_blend_131 : decode cX4_blend 131 = .ok (.ior, 1) := by decide +kernel
theorem dX4_blend_132 : decode cX4_blend 132 = .ok (.aload_n 0, 1) := by decide +kernel
theorem dX4_blend_133 : decode cX4_blend 133 = .ok (.getfield 60, 3) := by decide +kernel
theorem dX4_blend_136 : decode cX4_blend 136 = .ok (.iconst 2, 1) := by decide +kernel
theorem dX4_blend_137 : decode cX4_blend 137 = .ok (.iaload, 1) := by decide +kernel
theorem dX4_blend_138 : decode cX4_blend 138 = .ok (.bipush 16, 2) := by decide +kernel
theorem dX4_blend_140 : decode cX4_blend 140 = .ok (.ishl, 1) := by decide +kernel
theorem dX4_blend_141 : decode cX4_blend 141 = .ok (.ior, 1) := by decide +kernel
theorem dX4_blend_142 : decode cX4_blend 142 = .ok (.ireturn, 1) := by decide +kernel
end
section
/-! the words that every method takes: its own code, and all good words of the tables -/
def gG : List Cond := lw_tbl.filter goodWord
theorem gG_good {w : Cond} (h : w ∈ gG) : (w.onTables && w.keeps) = true ∨ ∃ ty, w = .arrayClass ty := good_of_word (List.mem_filter.mp h).2
theorem gG_in {a b : Cond} (hb : b ∈ gG) : GoodIn (a :: gG) (b :: gG) := by
  intro w hw
  rcases List.mem_cons.mp hw with h | h
  · subst h; exact ⟨List.mem_cons_of_mem _ hb, gG_good hb⟩
  · exact ⟨List.mem_cons_of_mem _ h, gG_good h⟩
theorem gG_mk {w : Cond} {i : Nat} (h : lw_tbl[i]? = some w) (hg : goodWord w = true) : w ∈ gG := List.mem_filter.mpr ⟨List.mem_of_getElem? h, hg⟩
theorem xm {a w : Cond} (h : w ∈ gG) : w ∈ a :: gG := List.mem_cons_of_mem _ h
theorem gcS {R : Room} {s : State} {args : Array Value} {own : String} {index maxL mc ms : Nat} {y : MethodName} {bytes : ByteArray} {ret : Option FieldType} {rm : Room} {a : Cond} (n : Nat) (ht : ∀ w ∈ a :: gG, w.before args s = true) (hc : Cond.code y bytes maxL ret ∈ gG) (hl : Cond.methodLink own index y ∈ gG) (hs : Cond.static y ∈ gG) (hi : Cond.initialized y.cls ∈ gG) (hrc : rm.cells = mc) (hrs : rm.slots = ms)
    (hd : y.cls ≠ "java/lang/invoke/MethodHandle" ∧ y.cls ≠ "java/lang/invoke/VarHandle" ∧ (parseMethodDescriptor y.desc).map (fun d => d.parameters.length) = some n) (hR : rm.frames + 1 ≤ R.frames ∧ 8 + (maxL + 11) + rm.locals ≤ R.locals) :
    CallB R s args own index y bytes maxL ret (Cond.code y bytes maxL ret :: gG) rm mc ms n ∧ (Cond.static y).before args s = true :=
  ⟨callB_of n ht (gG_in hc) rfl hrc hrs (ht _ (xm hi)) (ht _ (xm hl)) hd hR, ht _ (xm hs)⟩
theorem gcV {R : Room} {s : State} {args : Array Value} {own C : String} {index maxL mc ms : Nat} {y : MethodName} {bytes : ByteArray} {ret : Option FieldType} {rm : Room} {a : Cond} (n : Nat) (ht : ∀ w ∈ a :: gG, w.before args s = true) (hc : Cond.code y bytes maxL ret ∈ gG) (hl : Cond.methodLink own index y ∈ gG) (hs : Cond.instanceMethod y ∈ gG) (hse : Cond.selects C y y ∈ gG) (hi : Cond.initialized y.cls ∈ gG) (hrc : rm.cells = mc) (hrs : rm.slots = ms)
    (hd : y.cls ≠ "java/lang/invoke/MethodHandle" ∧ y.cls ≠ "java/lang/invoke/VarHandle" ∧ (parseMethodDescriptor y.desc).map (fun d => d.parameters.length) = some n) (hR : rm.frames + 1 ≤ R.frames ∧ 8 + (maxL + 11) + rm.locals ≤ R.locals) :
    CallW R s args own C index y bytes maxL ret (Cond.code y bytes maxL ret :: gG) rm mc ms n :=
  ⟨callB_of n ht (gG_in hc) rfl hrc hrs (ht _ (xm hi)) (ht _ (xm hl)) hd hR, ht _ (xm hs), ht _ (xm hse)⟩
theorem xofW {l : Launch} {y : MethodName} {ws ws' : List Cond} {rm : Room} {Pc : Array Value → State → Prop} {Qc : Array Value → State → Outcome → State → Prop} {mc ms : Nat} {free : Addr → Prop} {cc : ByteArray} {maxL : Nat} {ret : Option FieldType}
    (hy : plainFor y = true) (hw : ws = Cond.code y cc maxL ret :: ws')
    (body : ∀ p e s m args below meth c s₁, BodyLoose p l y (headSpec ws rm) cc maxL ret e s m args below meth c s₁ → c.maxLocals = maxL → Pc args s →
      W p l e (headSpec ws rm).room s m args below meth c s.heap [] 0 0 (MQ below Qc args s mc ms free) (entryFrame m args maxL)) : Met l y ws rm Pc Qc mc ms free := by
  refine MetFree.of_bodySF (code := cc) (maxLocals := maxL) (ret := ret) hy ?_ ?_
  · intro args s m h hn
    obtain ⟨meth, c, h1, h2, h3, h4, h5, h6, -, -⟩ := Cond.code_spec hn (atoms_spec (ws := ws) h _ (by rw [hw]; exact List.mem_cons_self))
    exact ⟨meth, c, h1, h2, h3, h4, h5, h6⟩
  · intro p e s m args below meth c s₁ B hml hP _
    have hh0 : s₁.heap = s.heap := by rw [B.state]; rfl
    obtain ⟨t, a1, o, b1, b2, b3⟩ := body p e s m args below meth c s₁ B hml hP s₁ hh0 (Stand.of_body B)
    exact ⟨t, o, a1, b1, b2, ⟨b3.1, b3.2⟩⟩
/-! the worlds: an object with its arrays; the state is a function of the array's number (0: the object's own ints) and the place -/
abbrev tyA (cA : Nat → ClassId) : List (ClassId × FieldType) := [(cA 0, .int), (cA 1, .boolean), (cA 2, .object "BlendRows$Layer"), (cA 3, .long)]
abbrev w_ly (g : Nat → Nat) (cA : Nat → ClassId) (n : Nat) (b : Nat → Nat → Int32) : va_W := [(g 0, .inr (1, [.int (b 0 0), .ref (g 1), .ref (g 2), .ref (g 3), .ref (g 4), .ref (g 5), .int (b 0 1)])), (g 1, .inl (cA 0, n, .inl (b 1))), (g 2, .inl (cA 0, n, .inl (b 2))), (g 3, .inl (cA 0, n, .inl (b 3))), (g 4, .inl (cA 0, n, .inl (b 4))), (g 5, .inl (cA 0, n, .inl (b 5)))]
abbrev w_br (ga : Nat → Nat) (gl : Nat → Nat → Nat) (cA : Nat → ClassId) (n : Nat) (a : Nat → Nat → Int32) : va_W := [(ga 0, .inr (2, [.int (a 0 0), .int (a 0 1), .int (a 0 2), .ref (ga 1), .ref (ga 2), .ref (ga 3), .int (a 0 3), .int (a 0 4), .int (a 0 5), .int (a 0 6), .int (a 0 7), .int (a 0 8), .int (a 0 9)])), (ga 1, .inl (cA 0, n, .inl (a 1))), (ga 2, .inl (cA 0, n, .inl (a 2))), (ga 3, .inl (cA 2, 6, .inr (.inr (.inr (.inr (fun j => some (gl j 0)))))))]
abbrev w_md (gm : Nat → Nat) (cA : Nat → ClassId) (m : Nat → Nat → Int32) : va_W := [(gm 0, .inr (3, [.int (m 0 0), .int (m 0 1), .int (m 0 2), .int (m 0 3), .int (m 0 4), .ref (gm 1), .int (m 0 5), .ref (gm 2), .ref (gm 3), .ref (gm 4), .ref (gm 5), .ref (gm 6), .ref (gm 7), .int (m 0 6), .ref (gm 8), .ref (gm 9), .ref (gm 10), .ref (gm 11), .int (m 0 7), .ref (gm 12), .ref (gm 13), .ref (gm 14), .ref (gm 15)])),
  (gm 1, .inl (cA 0, 41, .inl (m 1))), (gm 2, .inl (cA 1, 8, .inl (m 2))), (gm 3, .inl (cA 0, 3456, .inl (m 3))), (gm 4, .inl (cA 0, 1152, .inl (m 4))), (gm 5, .inl (cA 0, 3456, .inl (m 5))), (gm 6, .inl (cA 0, 1152, .inl (m 6))), (gm 7, .inl (cA 0, 1152, .inl (m 7))), (gm 8, .inl (cA 0, 144, .inl (m 8))), (gm 9, .inl (cA 0, 144, .inl (m 9))), (gm 10, .inl (cA 0, 3, .inl (m 10))), (gm 11, .inl (cA 1, 3, .inl (m 11))), (gm 12, .inl (cA 0, 3, .inl (m 12))), (gm 13, .inl (cA 0, 3, .inl (m 13))), (gm 14, .inl (cA 0, 3, .inl (m 14))), (gm 15, .inl (cA 0, 3, .inl (m 15)))]
abbrev w_a3 (gz : Nat) (cA : Nat → ClassId) (z : Nat → Int32) : va_W := [(gz, .inl (cA 0, 3, .inl z))]
def st (a : Nat → Nat → Int32) (k j : Nat) (v : Int32) : Nat → Nat → Int32 := va_up a k (upd (a k) j v)
def bz (k : Int32) : Prop := narrow .boolean (.int k) = .int k ∧ fits .boolean (.int k) = true
/-! starts and ends -/
def xP0 (As : List Value) : Array Value → State → Prop := va_Pc As (fun _ => True)
def xP1 (dC : Nat → ClassId) (dI : Nat → Nat → Nat) (cA : Nat → ClassId) (W : va_W) (As : List Value) : Array Value → State → Prop := va_Pc As (fun U => va_P (dC, dI) vwCl W U.heap ∧ va_K (dC, dI) vwCl (tyA cA) U)
def xP2 (dC : Nat → ClassId) (dI : Nat → Nat → Nat) (cA : Nat → ClassId) (W : va_W) (sz : Nat) (As : List Value) : Array Value → State → Prop := va_Pc As (fun U => U.heap.size = sz ∧ va_P (dC, dI) vwCl W U.heap ∧ va_K (dC, dI) vwCl (tyA cA) U ∧ va_D (fun _ => True) W)
def xB (dC : Nat → ClassId) (dI : Nat → Nat → Nat) (cA : Nat → ClassId) {S : Type} (Wf : S → va_W) (A : Nat → Prop) (u : S) (t : State) : Prop := va_P (dC, dI) vwCl (Wf u) t.heap ∧ va_K (dC, dI) vwCl (tyA cA) t ∧ va_D A (Wf u)
def xSr (post : Nat → Prop) : Array Value → State → Outcome → State → Prop := fun _ st o t => ∃ r : Nat, o = .returned (some (.ref r)) ∧ post r ∧ t.heap = st.heap
theorem xbl0 {As : List Value} : FrameBlind (xP0 As) := fun _ _ _ _ q => ⟨q.1, trivial⟩
theorem xbl1 {dC : Nat → ClassId} {dI : Nat → Nat → Nat} {cA : Nat → ClassId} {W : va_W} {As : List Value} : FrameBlind (xP1 dC dI cA W As) := fun a U g mk q => ⟨q.1, q.2.1, va_K.moved (u := U) (U := U.calling g mk a) (Vm.Alike.refl U.vm) q.2.2⟩
theorem xbl2 {dC : Nat → ClassId} {dI : Nat → Nat → Nat} {cA : Nat → ClassId} {W : va_W} {sz : Nat} {As : List Value} : FrameBlind (xP2 dC dI cA W sz As) := fun a U g mk q => ⟨q.1, q.2.1, q.2.2.1, va_K.moved (u := U) (U := U.calling g mk a) (Vm.Alike.refl U.vm) q.2.2.2.1, q.2.2.2.2⟩
theorem xin {i : Int32} {n : Nat} (h : ¬ (i < 0 ∨ n ≤ i.toNatClampNeg)) : vp_in i n := h
section XR
variable {p : Program} {l : Launch} {e : Env} {R : Room} {s : State} {m : MethodId} {args : Array Value} {below : List Frame} {meth : Method} {c : Code} {H : Heap} {locs : List Loc} {cells slots : Nat} {Q : State → Prop} {pc : Nat} {ls : Array Slot} {rest : List Value}
theorem xtop {x y : Int32} (h : x = y) (k : W p l e R s m args below meth c H locs cells slots Q (F0 m pc ls (.int y :: rest))) : W p l e R s m args below meth c H locs cells slots Q (F0 m pc ls (.int x :: rest)) := h ▸ k
theorem xtopv {x y : Value} (h : x = y) (k : W p l e R s m args below meth c H locs cells slots Q (F0 m pc ls (y :: rest))) : W p l e R s m args below meth c H locs cells slots Q (F0 m pc ls (x :: rest)) := h ▸ k
theorem xcallSr {post : Nat → Prop} {a : Array Value} {st0 : List Value} (hr : CallRun p l e R s m args below meth c H locs cells slots 0 0 (F0 m pc ls st0) rest (xSr post a) (fun _ => False))
    (kk : ∀ r : Nat, post r → W p l e R s m args below meth c H locs cells slots Q (F0 m (pc + 3) ls (.ref r :: rest))) : W p l e R s m args below meth c H locs cells slots Q (F0 m pc ls st0) := by
  intro T hT X
  obtain ⟨v, st₀, t, T', L, h0, X', hL, e1, ⟨r, hv, hp, hh⟩, st⟩ := hr T hT X
  cases hv
  obtain ⟨t2, a1, b1⟩ := kk r hp T' (by rw [e1, hh, h0]) (Stand.forget X' (fun q h => (hL q h).elim))
  exact ⟨t2, st t2 a1, b1⟩
end XR
theorem xsw0_5 {x : Int32} (h0 : ¬ x = 0) (h1 : ¬ x = 1) (h2 : ¬ x = 2) (h3 : ¬ x = 3) (h4 : ¬ x = 4) (h5 : ¬ x = 5) : x.toInt < 0 ∨ 5 < x.toInt := by
  have e0 := lv_neT h0 (a := 0) rfl; have e1 := lv_neT h1 (a := 1) rfl; have e2 := lv_neT h2 (a := 2) rfl; have e3 := lv_neT h3 (a := 3) rfl; have e4 := lv_neT h4 (a := 4) rfl; have e5 := lv_neT h5 (a := 5) rfl
  omega
theorem xsw0_4 {x : Int32} (h0 : ¬ x = 0) (h1 : ¬ x = 1) (h2 : ¬ x = 2) (h3 : ¬ x = 3) (h4 : ¬ x = 4) : x.toInt < 0 ∨ 4 < x.toInt := by
  have e0 := lv_neT h0 (a := 0) rfl; have e1 := lv_neT h1 (a := 1) rfl; have e2 := lv_neT h2 (a := 2) rfl; have e3 := lv_neT h3 (a := 3) rfl; have e4 := lv_neT h4 (a := 4) rfl
  omega
theorem xsw12_15 {x : Int32} (h0 : ¬ x = 12) (h1 : ¬ x = 13) (h2 : ¬ x = 14) (h3 : ¬ x = 15) : x.toInt < 12 ∨ 15 < x.toInt := by
  have e0 := lv_neT h0 (a := 12) rfl; have e1 := lv_neT h1 (a := 13) rfl; have e2 := lv_neT h2 (a := 14) rfl; have e3 := lv_neT h3 (a := 15) rfl
  omega
theorem xsw1_11 {x : Int32} (h1 : ¬ x = 1) (h2 : ¬ x = 2) (h3 : ¬ x = 3) (h4 : ¬ x = 4) (h5 : ¬ x = 5) (h6 : ¬ x = 6) (h7 : ¬ x = 7) (h8 : ¬ x = 8) (h9 : ¬ x = 9) (h10 : ¬ x = 10) (h11 : ¬ x = 11) : x.toInt < 1 ∨ 11 < x.toInt := by
  have e1 := lv_neT h1 (a := 1) rfl; have e2 := lv_neT h2 (a := 2) rfl; have e3 := lv_neT h3 (a := 3) rfl; have e4 := lv_neT h4 (a := 4) rfl; have e5 := lv_neT h5 (a := 5) rfl; have e6 := lv_neT h6 (a := 6) rfl; have e7 := lv_neT h7 (a := 7) rfl; have e8 := lv_neT h8 (a := 8) rfl; have e9 := lv_neT h9 (a := 9) rfl; have e10 := lv_neT h10 (a := 10) rfl; have e11 := lv_neT h11 (a := 11) rfl
  omega
end
section
theorem m22 : Cond.initialized "java/lang/Math" ∈ gG := gG_mk (i := 22) (by decide +kernel) (by decide +kernel)
theorem m30 : Cond.initialized yX2_mul.cls ∈ gG := gG_mk (i := 30) (by decide +kernel) (by decide +kernel)
theorem m44 : Cond.static Lib.Math.min.name ∈ gG := gG_mk (i := 44) (by decide +kernel) (by decide +kernel)
theorem m45 : Cond.code Lib.Math.min.name Lib.Math.min.code 2 (some .int) ∈ gG := gG_mk (i := 45) (by decide +kernel) (by decide +kernel)
theorem m47 : Cond.static Lib.Math.max.name ∈ gG := gG_mk (i := 47) (by decide +kernel) (by decide +kernel)
theorem m48 : Cond.code Lib.Math.max.name Lib.Math.max.code 2 (some .int) ∈ gG := gG_mk (i := 48) (by decide +kernel) (by decide +kernel)
theorem m258 : Cond.methodLink RX2 9 yX2_mul ∈ gG := gG_mk (i := 258) (by decide +kernel) (by decide +kernel)
theorem m259 : Cond.static yX2_mul ∈ gG := gG_mk (i := 259) (by decide +kernel) (by decide +kernel)
theorem m260 : Cond.code yX2_mul cX2_mul 2 (some .int) ∈ gG := gG_mk (i := 260) (by decide +kernel) (by decide +kernel)
theorem m324 : Cond.methodLink RX2 15 Lib.Math.min.name ∈ gG := gG_mk (i := 324) (by decide +kernel) (by decide +kernel)
theorem m325 : Cond.methodLink RX2 20 Lib.Math.max.name ∈ gG := gG_mk (i := 325) (by decide +kernel) (by decide +kernel)
theorem m362 : Cond.methodLink RX2 23 yJ9_floorDiv_7cf53 ∈ gG := gG_mk (i := 362) (by decide +kernel) (by decide +kernel)
theorem m363 : Cond.static yJ9_floorDiv_7cf53 ∈ gG := gG_mk (i := 363) (by decide +kernel) (by decide +kernel)
theorem m364 : Cond.code yJ9_floorDiv_7cf53 cJ9_floorDiv_7cf53 3 (some .int) ∈ gG := gG_mk (i := 364) (by decide +kernel) (by decide +kernel)
abbrev wJ9_floorDiv_7cf53 : List Cond := Cond.code yJ9_floorDiv_7cf53 cJ9_floorDiv_7cf53 3 (some .int) :: gG
def wp_J9_floorDiv (p0 : Int32) (p1 : Int32) (P : Int32 → Prop) : Prop :=
  (¬ p1 = 0 ∧ ∀ v1 : Int32, v1 = (p0 / p1) → ((0 ≤ (p0 ^^^ p1) → P v1) ∧
  (¬ 0 ≤ (p0 ^^^ p1) → (((v1 * p1) = p0 → P v1) ∧
  (¬ (v1 * p1) = p0 → P (v1 - 1))))))
abbrev rm_J9_floorDiv : Room := { frames := 0, cells := 0, slots := 0, locals := 0 }
set_option maxHeartbeats 4000000 in
set_option maxRecDepth 100000 in
theorem c_J9_floorDiv (l : Launch) (p0 : Int32) (p1 : Int32) (P : Int32 → Prop) (hw : wp_J9_floorDiv p0 p1 P) : Met l yJ9_floorDiv_7cf53 wJ9_floorDiv_7cf53 rm_J9_floorDiv (xP0 [.int p0, .int p1]) (vp_Si P) 0 0 (fun _ => False) := by
  refine xofW (cc := cJ9_floorDiv_7cf53) (maxL := 3) (ret := (some .int)) (by decide +kernel) rfl ?_
  intro p e s m args below meth c s₁ B hml hv
  obtain ⟨hargs, -⟩ := hv
  have hx := B.exec
  have hb := B.bytes
  have hr := B.returns
  have hts := atoms_spec (ws := wJ9_floorDiv_7cf53) B.pre
  have hown : s.vm.findClass RJ9 = some m.cls := findClass_of_methodNamed B.named
  have hlocks := B.notSynchronized
  have hl := lv_entry ([.int p0, .int p1]) (n := 3) (Nat.le_of_ble_eq_true rfl)
  rw [show entryFrame m args 3 = entryFrame m (([.int p0, .int p1] : List Value).toArray) 3 from by rw [hargs], lg_entry_eq]
  generalize (lg_sl ([.int p0, .int p1]) ++ List.replicate (3 - (lg_sl ([.int p0, .int p1])).length) Slot.unset).toArray = ls at hl ⊢
  have hl : lv_has ls 3 [(0, .int p0), (1, .int p1)] := hl
  refine lv_iload_n hx hb dJ9_floorDiv_7cf53_0 rfl (lv_at hl 0 rfl) ?_
  refine lv_iload_n hx hb dJ9_floorDiv_7cf53_1 rfl (lv_at hl 1 rfl) ?_
  refine lv_idiv hx hb dJ9_floorDiv_7cf53_2 (And.left hw) ?_
  replace hw := And.right hw
  refine lv_topi (fun v1 e_v1 => ?_)
  replace hw := hw v1 e_v1
  refine lv_istore_n (lv' := [(2, .int v1), (0, .int p0), (1, .int p1)]) hx hb dJ9_floorDiv_7cf53_3 rfl hl (by decide) rfl (fun ls hl => ?_)
  refine lv_iload_n hx hb dJ9_floorDiv_7cf53_4 rfl (lv_at hl 1 rfl) ?_
  refine lv_iload_n hx hb dJ9_floorDiv_7cf53_5 rfl (lv_at hl 2 rfl) ?_
  refine lv_ixor hx hb dJ9_floorDiv_7cf53_6 ?_
  refine lv_if_ge (tgt := 21) hx hb dJ9_floorDiv_7cf53_7 (by decide) (fun c3 => ?_) (fun c3 => ?_)
  · replace hw := And.left hw c3
    refine lv_iload_n hx hb dJ9_floorDiv_7cf53_21 rfl (lv_at hl 0 rfl) ?_
    exact W.iret hx hb hr (fun t ht hW => ⟨_, rfl, hw, ht⟩) (fun q h => by cases h) dJ9_floorDiv_7cf53_22
  · replace hw := And.right hw c3
    refine lv_iload_n hx hb dJ9_floorDiv_7cf53_10 rfl (lv_at hl 0 rfl) ?_
    refine lv_iload_n hx hb dJ9_floorDiv_7cf53_11 rfl (lv_at hl 2 rfl) ?_
    refine lv_imul hx hb dJ9_floorDiv_7cf53_12 ?_
    refine lv_iload_n hx hb dJ9_floorDiv_7cf53_13 rfl (lv_at hl 1 rfl) ?_
    refine lv_icmp_eq (tgt := 21) hx hb dJ9_floorDiv_7cf53_14 (by decide) (fun c2 => ?_) (fun c2 => ?_)
    · replace hw := And.left hw c2
      refine lv_iload_n hx hb dJ9_floorDiv_7cf53_21 rfl (lv_at hl 0 rfl) ?_
      exact W.iret hx hb hr (fun t ht hW => ⟨_, rfl, hw, ht⟩) (fun q h => by cases h) dJ9_floorDiv_7cf53_22
    · replace hw := And.right hw c2
      refine lv_iload_n hx hb dJ9_floorDiv_7cf53_17 rfl (lv_at hl 0 rfl) ?_
      refine lv_iconst (v := 1) hx hb dJ9_floorDiv_7cf53_18 (by decide) ?_
      refine lv_isub hx hb dJ9_floorDiv_7cf53_19 ?_
      exact W.iret hx hb hr (fun t ht hW => ⟨_, rfl, hw, ht⟩) (fun q h => by cases h) dJ9_floorDiv_7cf53_20
abbrev wX2_mul : List Cond := Cond.code yX2_mul cX2_mul 2 (some .int) :: gG
def wp_X2_mul (p0 : Int32) (p1 : Int32) (P : Int32 → Prop) : Prop :=
  P (((p0 * p1) + 127) / 255)
abbrev rm_X2_mul : Room := { frames := 0, cells := 0, slots := 0, locals := 0 }
set_option maxHeartbeats 4000000 in
set_option maxRecDepth 100000 in
theorem c_X2_mul (l : Launch) (p0 : Int32) (p1 : Int32) (P : Int32 → Prop) (hw : wp_X2_mul p0 p1 P) : Met l yX2_mul wX2_mul rm_X2_mul (xP0 [.int p0, .int p1]) (vp_Si P) 0 0 (fun _ => False) := by
  refine Met.ofW (cc := cX2_mul) (maxL := 2) (ret := (some .int)) (by decide) rfl ?_
  intro p e s m args below meth c s₁ B hml hv
  obtain ⟨hargs, -⟩ := hv
  have hx := B.exec
  have hb := B.bytes
  have hr := B.returns
  have hts := atoms_spec (ws := wX2_mul) B.pre
  have hown : s.vm.findClass RX2 = some m.cls := findClass_of_methodNamed B.named
  have hlocks := B.notSynchronized
  have hl := lv_entry ([.int p0, .int p1]) (n := 2) (Nat.le_of_ble_eq_true rfl)
  rw [show entryFrame m args 2 = entryFrame m (([.int p0, .int p1] : List Value).toArray) 2 from by rw [hargs], lg_entry_eq]
  generalize (lg_sl ([.int p0, .int p1]) ++ List.replicate (2 - (lg_sl ([.int p0, .int p1])).length) Slot.unset).toArray = ls at hl ⊢
  have hl : lv_has ls 2 [(0, .int p0), (1, .int p1)] := hl
  refine lv_iload_n hx hb dX2_mul_0 rfl (lv_at hl 0 rfl) ?_
  refine lv_iload_n hx hb dX2_mul_1 rfl (lv_at hl 1 rfl) ?_
  refine lv_imul hx hb dX2_mul_2 ?_
  refine lv_bipush (v := 127) hx hb dX2_mul_3 (by decide) ?_
  refine lv_iadd hx hb dX2_mul_5 ?_
  refine lv_sipush (v := 255) hx hb dX2_mul_6 (by decide) ?_
  refine lv_idiv hx hb dX2_mul_9 (by decide) ?_
  exact W.iret hx hb hr (fun t ht hW => ⟨_, rfl, hw, ht⟩) (fun q h => by cases h) dX2_mul_10
abbrev wX2_union : List Cond := Cond.code yX2_union cX2_union 2 (some .int) :: gG
def wp_X2_union (p0 : Int32) (p1 : Int32) (P : Int32 → Prop) : Prop :=
  wp_X2_mul p0 p1 (fun r1 => P ((p0 + p1) - r1))
abbrev rm_X2_union : Room := { frames := 1, cells := 0, slots := 0, locals := 21 }
set_option maxHeartbeats 4000000 in
set_option maxRecDepth 100000 in
theorem c_X2_union (l : Launch) (p0 : Int32) (p1 : Int32) (P : Int32 → Prop) (hw : wp_X2_union p0 p1 P) : Met l yX2_union wX2_union rm_X2_union (xP0 [.int p0, .int p1]) (vp_Si P) 0 0 (fun _ => False) := by
  refine Met.ofW (cc := cX2_union) (maxL := 2) (ret := (some .int)) (by decide) rfl ?_
  intro p e s m args below meth c s₁ B hml hv
  obtain ⟨hargs, -⟩ := hv
  have hx := B.exec
  have hb := B.bytes
  have hr := B.returns
  have hts := atoms_spec (ws := wX2_union) B.pre
  have hown : s.vm.findClass RX2 = some m.cls := findClass_of_methodNamed B.named
  have hlocks := B.notSynchronized
  have hl := lv_entry ([.int p0, .int p1]) (n := 2) (Nat.le_of_ble_eq_true rfl)
  rw [show entryFrame m args 2 = entryFrame m (([.int p0, .int p1] : List Value).toArray) 2 from by rw [hargs], lg_entry_eq]
  generalize (lg_sl ([.int p0, .int p1]) ++ List.replicate (2 - (lg_sl ([.int p0, .int p1])).length) Slot.unset).toArray = ls at hl ⊢
  have hl : lv_has ls 2 [(0, .int p0), (1, .int p1)] := hl
  refine lv_iload_n hx hb dX2_union_0 rfl (lv_at hl 0 rfl) ?_
  refine lv_iload_n hx hb dX2_union_1 rfl (lv_at hl 1 rfl) ?_
  refine lv_iadd hx hb dX2_union_2 ?_
  refine lv_iload_n hx hb dX2_union_3 rfl (lv_at hl 0 rfl) ?_
  refine lv_iload_n hx hb dX2_union_4 rfl (lv_at hl 1 rfl) ?_
  refine vp_callSi (va_Run.run (va_runS (As := [.int p0, .int p1]) (rest := [.int (p0 + p1)]) ⟨hx, hb, hml, hown, hts⟩ (c_X2_mul l p0 p1 _ hw) (gcS 2 hts m260 m258 m259 m30 rfl rfl (by decide +kernel) ⟨Nat.le_of_ble_eq_true rfl, Nat.le_of_ble_eq_true rfl⟩) ⟨xbl0, fun U hU hW => ⟨rfl, trivial⟩⟩ rfl rfl hl.1 rfl (lv_room (Nat.le_of_ble_eq_true rfl)) dX2_union_5 ⟨Nat.le_of_ble_eq_true rfl, Nat.le_of_ble_eq_true rfl⟩)) (fun r1 hw => ?_)
  refine lv_isub hx hb dX2_union_8 ?_
  exact W.iret hx hb hr (fun t ht hW => ⟨_, rfl, hw, ht⟩) (fun q h => by cases h) dX2_union_9
abbrev wX2_within : List Cond := Cond.code yX2_within cX2_within 1 (some .int) :: gG
def wp_X2_within (p0 : Int32) (P : Int32 → Prop) : Prop :=
  P (if 0 < (if p0 < 255 then p0 else 255) then (if p0 < 255 then p0 else 255) else 0)
abbrev rm_X2_within : Room := { frames := 1, cells := 0, slots := 0, locals := 21 }
set_option maxHeartbeats 4000000 in
set_option maxRecDepth 100000 in
theorem c_X2_within (l : Launch) (p0 : Int32) (P : Int32 → Prop) (hw : wp_X2_within p0 P) : Met l yX2_within wX2_within rm_X2_within (xP0 [.int p0]) (vp_Si P) 0 0 (fun _ => False) := by
  refine Met.ofW (cc := cX2_within) (maxL := 1) (ret := (some .int)) (by decide) rfl ?_
  intro p e s m args below meth c s₁ B hml hv
  obtain ⟨hargs, -⟩ := hv
  have hx := B.exec
  have hb := B.bytes
  have hr := B.returns
  have hts := atoms_spec (ws := wX2_within) B.pre
  have hown : s.vm.findClass RX2 = some m.cls := findClass_of_methodNamed B.named
  have hlocks := B.notSynchronized
  have hl := lv_entry ([.int p0]) (n := 1) (Nat.le_of_ble_eq_true rfl)
  rw [show entryFrame m args 1 = entryFrame m (([.int p0] : List Value).toArray) 1 from by rw [hargs], lg_entry_eq]
  generalize (lg_sl ([.int p0]) ++ List.replicate (1 - (lg_sl ([.int p0])).length) Slot.unset).toArray = ls at hl ⊢
  have hl : lv_has ls 1 [(0, .int p0)] := hl
  refine lv_iconst (v := 0) hx hb dX2_within_0 (by decide) ?_
  refine lv_sipush (v := 255) hx hb dX2_within_1 (by decide) ?_
  refine lv_iload_n hx hb dX2_within_4 rfl (lv_at hl 0 rfl) ?_
  refine va_mmin hx hb (hml.trans hl.1.symm) hown (hts _ (xm m324)) (hts _ (xm m44)) (hts _ (xm m22)) (hts _ (xm m45)) (Nat.le_of_ble_eq_true rfl) (Nat.le_of_ble_eq_true rfl) (Nat.le_of_ble_eq_true rfl) (Nat.le_of_ble_eq_true rfl) dX2_within_5 ?_
  refine va_mmax hx hb (hml.trans hl.1.symm) hown (hts _ (xm m325)) (hts _ (xm m47)) (hts _ (xm m22)) (hts _ (xm m48)) (Nat.le_of_ble_eq_true rfl) (Nat.le_of_ble_eq_true rfl) (Nat.le_of_ble_eq_true rfl) (Nat.le_of_ble_eq_true rfl) dX2_within_8 ?_
  exact W.iret hx hb hr (fun t ht hW => ⟨_, rfl, hw, ht⟩) (fun q h => by cases h) dX2_within_11
abbrev wX2_nearest : List Cond := Cond.code yX2_nearest cX2_nearest 2 (some .int) :: gG
def wp_X2_nearest (p0 : Int32) (p1 : Int32) (P : Int32 → Prop) : Prop :=
  ((0 < p1 → (¬ p1 = 0 ∧ P (if ((p0 + (p1 / 2)) / p1) < 255 then ((p0 + (p1 / 2)) / p1) else 255))) ∧
  (¬ 0 < p1 → P 0))
abbrev rm_X2_nearest : Room := { frames := 1, cells := 0, slots := 0, locals := 21 }
set_option maxHeartbeats 4000000 in
set_option maxRecDepth 100000 in
theorem c_X2_nearest (l : Launch) (p0 : Int32) (p1 : Int32) (P : Int32 → Prop) (hw : wp_X2_nearest p0 p1 P) : Met l yX2_nearest wX2_nearest rm_X2_nearest (xP0 [.int p0, .int p1]) (vp_Si P) 0 0 (fun _ => False) := by
  refine Met.ofW (cc := cX2_nearest) (maxL := 2) (ret := (some .int)) (by decide) rfl ?_
  intro p e s m args below meth c s₁ B hml hv
  obtain ⟨hargs, -⟩ := hv
  have hx := B.exec
  have hb := B.bytes
  have hr := B.returns
  have hts := atoms_spec (ws := wX2_nearest) B.pre
  have hown : s.vm.findClass RX2 = some m.cls := findClass_of_methodNamed B.named
  have hlocks := B.notSynchronized
  have hl := lv_entry ([.int p0, .int p1]) (n := 2) (Nat.le_of_ble_eq_true rfl)
  rw [show entryFrame m args 2 = entryFrame m (([.int p0, .int p1] : List Value).toArray) 2 from by rw [hargs], lg_entry_eq]
  generalize (lg_sl ([.int p0, .int p1]) ++ List.replicate (2 - (lg_sl ([.int p0, .int p1])).length) Slot.unset).toArray = ls at hl ⊢
  have hl : lv_has ls 2 [(0, .int p0), (1, .int p1)] := hl
  refine lv_iload_n hx hb dX2_nearest_0 rfl (lv_at hl 1 rfl) ?_
  refine lv_if_gt (tgt := 6) hx hb dX2_nearest_1 (by decide) (fun c1 => ?_) (fun c1 => ?_)
  · replace hw := And.left hw c1
    refine lv_sipush (v := 255) hx hb dX2_nearest_6 (by decide) ?_
    refine lv_iload_n hx hb dX2_nearest_9 rfl (lv_at hl 0 rfl) ?_
    refine lv_iload_n hx hb dX2_nearest_10 rfl (lv_at hl 1 rfl) ?_
    refine lv_iconst (v := 2) hx hb dX2_nearest_11 (by decide) ?_
    refine lv_idiv hx hb dX2_nearest_12 (by decide) ?_
    refine lv_iadd hx hb dX2_nearest_13 ?_
    refine lv_iload_n hx hb dX2_nearest_14 rfl (lv_at hl 1 rfl) ?_
    refine lv_idiv hx hb dX2_nearest_15 (And.left hw) ?_
    replace hw := And.right hw
    refine va_mmin hx hb (hml.trans hl.1.symm) hown (hts _ (xm m324)) (hts _ (xm m44)) (hts _ (xm m22)) (hts _ (xm m45)) (Nat.le_of_ble_eq_true rfl) (Nat.le_of_ble_eq_true rfl) (Nat.le_of_ble_eq_true rfl) (Nat.le_of_ble_eq_true rfl) dX2_nearest_16 ?_
    exact W.iret hx hb hr (fun t ht hW => ⟨_, rfl, hw, ht⟩) (fun q h => by cases h) dX2_nearest_19
  · replace hw := And.right hw c1
    refine lv_iconst (v := 0) hx hb dX2_nearest_4 (by decide) ?_
    exact W.iret hx hb hr (fun t ht hW => ⟨_, rfl, hw, ht⟩) (fun q h => by cases h) dX2_nearest_5
abbrev wX2_bandOf : List Cond := Cond.code yX2_bandOf cX2_bandOf 2 (some .int) :: gG
def wp_X2_bandOf (p0 : Int32) (p1 : Int32) (P : Int32 → Prop) : Prop :=
  P ((p0 >>> ((8 * p1) &&& 31)) &&& 255)
abbrev rm_X2_bandOf : Room := { frames := 0, cells := 0, slots := 0, locals := 0 }
set_option maxHeartbeats 4000000 in
set_option maxRecDepth 100000 in
theorem c_X2_bandOf (l : Launch) (p0 : Int32) (p1 : Int32) (P : Int32 → Prop) (hw : wp_X2_bandOf p0 p1 P) : Met l yX2_bandOf wX2_bandOf rm_X2_bandOf (xP0 [.int p0, .int p1]) (vp_Si P) 0 0 (fun _ => False) := by
  refine Met.ofW (cc := cX2_bandOf) (maxL := 2) (ret := (some .int)) (by decide) rfl ?_
  intro p e s m args below meth c s₁ B hml hv
  obtain ⟨hargs, -⟩ := hv
  have hx := B.exec
  have hb := B.bytes
  have hr := B.returns
  have hts := atoms_spec (ws := wX2_bandOf) B.pre
  have hown : s.vm.findClass RX2 = some m.cls := findClass_of_methodNamed B.named
  have hlocks := B.notSynchronized
  have hl := lv_entry ([.int p0, .int p1]) (n := 2) (Nat.le_of_ble_eq_true rfl)
  rw [show entryFrame m args 2 = entryFrame m (([.int p0, .int p1] : List Value).toArray) 2 from by rw [hargs], lg_entry_eq]
  generalize (lg_sl ([.int p0, .int p1]) ++ List.replicate (2 - (lg_sl ([.int p0, .int p1])).length) Slot.unset).toArray = ls at hl ⊢
  have hl : lv_has ls 2 [(0, .int p0), (1, .int p1)] := hl
  refine lv_iload_n hx hb dX2_bandOf_0 rfl (lv_at hl 0 rfl) ?_
  refine lv_bipush (v := 8) hx hb dX2_bandOf_1 (by decide) ?_
  refine lv_iload_n hx hb dX2_bandOf_3 rfl (lv_at hl 1 rfl) ?_
  refine lv_imul hx hb dX2_bandOf_4 ?_
  refine lv_ishr hx hb dX2_bandOf_5 ?_
  refine lv_sipush (v := 255) hx hb dX2_bandOf_6 (by decide) ?_
  refine lv_iand hx hb dX2_bandOf_9 ?_
  exact W.iret hx hb hr (fun t ht hW => ⟨_, rfl, hw, ht⟩) (fun q h => by cases h) dX2_bandOf_10
abbrev wX2_packed : List Cond := Cond.code yX2_packed cX2_packed 3 (some .int) :: gG
def wp_X2_packed (p0 : Int32) (p1 : Int32) (p2 : Int32) (P : Int32 → Prop) : Prop :=
  P ((p0 ||| (p1 <<< (8 &&& 31))) ||| (p2 <<< (16 &&& 31)))
abbrev rm_X2_packed : Room := { frames := 0, cells := 0, slots := 0, locals := 0 }
set_option maxHeartbeats 4000000 in
set_option maxRecDepth 100000 in
theorem c_X2_packed (l : Launch) (p0 : Int32) (p1 : Int32) (p2 : Int32) (P : Int32 → Prop) (hw : wp_X2_packed p0 p1 p2 P) : Met l yX2_packed wX2_packed rm_X2_packed (xP0 [.int p0, .int p1, .int p2]) (vp_Si P) 0 0 (fun _ => False) := by
  refine Met.ofW (cc := cX2_packed) (maxL := 3) (ret := (some .int)) (by decide) rfl ?_
  intro p e s m args below meth c s₁ B hml hv
  obtain ⟨hargs, -⟩ := hv
  have hx := B.exec
  have hb := B.bytes
  have hr := B.returns
  have hts := atoms_spec (ws := wX2_packed) B.pre
  have hown : s.vm.findClass RX2 = some m.cls := findClass_of_methodNamed B.named
  have hlocks := B.notSynchronized
  have hl := lv_entry ([.int p0, .int p1, .int p2]) (n := 3) (Nat.le_of_ble_eq_true rfl)
  rw [show entryFrame m args 3 = entryFrame m (([.int p0, .int p1, .int p2] : List Value).toArray) 3 from by rw [hargs], lg_entry_eq]
  generalize (lg_sl ([.int p0, .int p1, .int p2]) ++ List.replicate (3 - (lg_sl ([.int p0, .int p1, .int p2])).length) Slot.unset).toArray = ls at hl ⊢
  have hl : lv_has ls 3 [(0, .int p0), (1, .int p1), (2, .int p2)] := hl
  refine lv_iload_n hx hb dX2_packed_0 rfl (lv_at hl 0 rfl) ?_
  refine lv_iload_n hx hb dX2_packed_1 rfl (lv_at hl 1 rfl) ?_
  refine lv_bipush (v := 8) hx hb dX2_packed_2 (by decide) ?_
  refine lv_ishl hx hb dX2_packed_4 ?_
  refine lv_ior hx hb dX2_packed_5 ?_
  refine lv_iload_n hx hb dX2_packed_6 rfl (lv_at hl 2 rfl) ?_
  refine lv_bipush (v := 16) hx hb dX2_packed_7 (by decide) ?_
  refine lv_ishl hx hb dX2_packed_9 ?_
  refine lv_ior hx hb dX2_packed_10 ?_
  exact W.iret hx hb hr (fun t ht hW => ⟨_, rfl, hw, ht⟩) (fun q h => by cases h) dX2_packed_11
abbrev wX2_lum : List Cond := Cond.code yX2_lum cX2_lum 3 (some .int) :: gG
def wp_X2_lum (p0 : Int32) (p1 : Int32) (p2 : Int32) (P : Int32 → Prop) : Prop :=
  wp_J9_floorDiv (((30 * p0) + (59 * p1)) + (11 * p2)) 100 (fun r1 => P r1)
abbrev rm_X2_lum : Room := { frames := 1, cells := 0, slots := 0, locals := 22 }
set_option maxHeartbeats 4000000 in
set_option maxRecDepth 100000 in
theorem c_X2_lum (l : Launch) (p0 : Int32) (p1 : Int32) (p2 : Int32) (P : Int32 → Prop) (hw : wp_X2_lum p0 p1 p2 P) : Met l yX2_lum wX2_lum rm_X2_lum (xP0 [.int p0, .int p1, .int p2]) (vp_Si P) 0 0 (fun _ => False) := by
  refine Met.ofW (cc := cX2_lum) (maxL := 3) (ret := (some .int)) (by decide) rfl ?_
  intro p e s m args below meth c s₁ B hml hv
  obtain ⟨hargs, -⟩ := hv
  have hx := B.exec
  have hb := B.bytes
  have hr := B.returns
  have hts := atoms_spec (ws := wX2_lum) B.pre
  have hown : s.vm.findClass RX2 = some m.cls := findClass_of_methodNamed B.named
  have hlocks := B.notSynchronized
  have hl := lv_entry ([.int p0, .int p1, .int p2]) (n := 3) (Nat.le_of_ble_eq_true rfl)
  rw [show entryFrame m args 3 = entryFrame m (([.int p0, .int p1, .int p2] : List Value).toArray) 3 from by rw [hargs], lg_entry_eq]
  generalize (lg_sl ([.int p0, .int p1, .int p2]) ++ List.replicate (3 - (lg_sl ([.int p0, .int p1, .int p2])).length) Slot.unset).toArray = ls at hl ⊢
  have hl : lv_has ls 3 [(0, .int p0), (1, .int p1), (2, .int p2)] := hl
  refine lv_bipush (v := 30) hx hb dX2_lum_0 (by decide) ?_
  refine lv_iload_n hx hb dX2_lum_2 rfl (lv_at hl 0 rfl) ?_
  refine lv_imul hx hb dX2_lum_3 ?_
  refine lv_bipush (v := 59) hx hb dX2_lum_4 (by decide) ?_
  refine lv_iload_n hx hb dX2_lum_6 rfl (lv_at hl 1 rfl) ?_
  refine lv_imul hx hb dX2_lum_7 ?_
  refine lv_iadd hx hb dX2_lum_8 ?_
  refine lv_bipush (v := 11) hx hb dX2_lum_9 (by decide) ?_
  refine lv_iload_n hx hb dX2_lum_11 rfl (lv_at hl 2 rfl) ?_
  refine lv_imul hx hb dX2_lum_12 ?_
  refine lv_iadd hx hb dX2_lum_13 ?_
  refine lv_bipush (v := 100) hx hb dX2_lum_14 (by decide) ?_
  refine vp_callSi (va_Run.run (va_runS (As := [.int (((30 * p0) + (59 * p1)) + (11 * p2)), .int 100]) (rest := []) ⟨hx, hb, hml, hown, hts⟩ (c_J9_floorDiv l (((30 * p0) + (59 * p1)) + (11 * p2)) 100 _ hw) (gcS 2 hts m364 m362 m363 m22 rfl rfl (by decide +kernel) ⟨Nat.le_of_ble_eq_true rfl, Nat.le_of_ble_eq_true rfl⟩) ⟨xbl0, fun U hU hW => ⟨rfl, trivial⟩⟩ rfl rfl hl.1 rfl (lv_room (Nat.le_of_ble_eq_true rfl)) dX2_lum_16 ⟨Nat.le_of_ble_eq_true rfl, Nat.le_of_ble_eq_true rfl⟩)) (fun r1 hw => ?_)
  exact W.iret hx hb hr (fun t ht hW => ⟨_, rfl, hw, ht⟩) (fun q h => by cases h) dX2_lum_19
end
section
theorem m32 : Cond.initialized yX1_rootOf.cls ∈ gG := gG_mk (i := 32) (by decide +kernel) (by decide +kernel)
theorem m256 : Cond.static yX2_union ∈ gG := gG_mk (i := 256) (by decide +kernel) (by decide +kernel)
theorem m257 : Cond.code yX2_union cX2_union 2 (some .int) ∈ gG := gG_mk (i := 257) (by decide +kernel) (by decide +kernel)
theorem m319 : Cond.static yX2_bandOf ∈ gG := gG_mk (i := 319) (by decide +kernel) (by decide +kernel)
theorem m320 : Cond.code yX2_bandOf cX2_bandOf 2 (some .int) ∈ gG := gG_mk (i := 320) (by decide +kernel) (by decide +kernel)
theorem m322 : Cond.static yX2_within ∈ gG := gG_mk (i := 322) (by decide +kernel) (by decide +kernel)
theorem m323 : Cond.code yX2_within cX2_within 1 (some .int) ∈ gG := gG_mk (i := 323) (by decide +kernel) (by decide +kernel)
theorem m327 : Cond.static yX2_packed ∈ gG := gG_mk (i := 327) (by decide +kernel) (by decide +kernel)
theorem m328 : Cond.code yX2_packed cX2_packed 3 (some .int) ∈ gG := gG_mk (i := 328) (by decide +kernel) (by decide +kernel)
theorem m340 : Cond.methodLink RX1 40 yX1_satOf ∈ gG := gG_mk (i := 340) (by decide +kernel) (by decide +kernel)
theorem m341 : Cond.static yX1_satOf ∈ gG := gG_mk (i := 341) (by decide +kernel) (by decide +kernel)
theorem m342 : Cond.code yX1_satOf cX1_satOf 4 (some .int) ∈ gG := gG_mk (i := 342) (by decide +kernel) (by decide +kernel)
theorem m343 : Cond.methodLink RX1 53 yX2_bandOf ∈ gG := gG_mk (i := 343) (by decide +kernel) (by decide +kernel)
theorem m344 : Cond.methodLink RX1 69 yX1_mostOf ∈ gG := gG_mk (i := 344) (by decide +kernel) (by decide +kernel)
theorem m345 : Cond.static yX1_mostOf ∈ gG := gG_mk (i := 345) (by decide +kernel) (by decide +kernel)
theorem m346 : Cond.code yX1_mostOf cX1_mostOf 3 (some .int) ∈ gG := gG_mk (i := 346) (by decide +kernel) (by decide +kernel)
theorem m347 : Cond.methodLink RX1 28 Lib.Math.max.name ∈ gG := gG_mk (i := 347) (by decide +kernel) (by decide +kernel)
theorem m348 : Cond.methodLink RX1 72 yX1_leastOf ∈ gG := gG_mk (i := 348) (by decide +kernel) (by decide +kernel)
theorem m349 : Cond.static yX1_leastOf ∈ gG := gG_mk (i := 349) (by decide +kernel) (by decide +kernel)
theorem m350 : Cond.code yX1_leastOf cX1_leastOf 3 (some .int) ∈ gG := gG_mk (i := 350) (by decide +kernel) (by decide +kernel)
theorem m351 : Cond.methodLink RX1 23 Lib.Math.min.name ∈ gG := gG_mk (i := 351) (by decide +kernel) (by decide +kernel)
theorem m352 : Cond.methodLink RX1 44 yX1_withSat ∈ gG := gG_mk (i := 352) (by decide +kernel) (by decide +kernel)
theorem m353 : Cond.static yX1_withSat ∈ gG := gG_mk (i := 353) (by decide +kernel) (by decide +kernel)
theorem m354 : Cond.code yX1_withSat cX1_withSat 7 (some .int) ∈ gG := gG_mk (i := 354) (by decide +kernel) (by decide +kernel)
theorem m355 : Cond.methodLink RX1 60 yX2_packed ∈ gG := gG_mk (i := 355) (by decide +kernel) (by decide +kernel)
theorem m356 : Cond.methodLink RX1 47 yX1_lumOf ∈ gG := gG_mk (i := 356) (by decide +kernel) (by decide +kernel)
theorem m357 : Cond.static yX1_lumOf ∈ gG := gG_mk (i := 357) (by decide +kernel) (by decide +kernel)
theorem m358 : Cond.code yX1_lumOf cX1_lumOf 1 (some .int) ∈ gG := gG_mk (i := 358) (by decide +kernel) (by decide +kernel)
theorem m359 : Cond.methodLink RX1 66 yX2_lum ∈ gG := gG_mk (i := 359) (by decide +kernel) (by decide +kernel)
theorem m360 : Cond.static yX2_lum ∈ gG := gG_mk (i := 360) (by decide +kernel) (by decide +kernel)
theorem m361 : Cond.code yX2_lum cX2_lum 3 (some .int) ∈ gG := gG_mk (i := 361) (by decide +kernel) (by decide +kernel)
theorem m365 : Cond.methodLink RX1 50 yX1_withLum ∈ gG := gG_mk (i := 365) (by decide +kernel) (by decide +kernel)
theorem m366 : Cond.static yX1_withLum ∈ gG := gG_mk (i := 366) (by decide +kernel) (by decide +kernel)
theorem m367 : Cond.code yX1_withLum cX1_withLum 9 (some .int) ∈ gG := gG_mk (i := 367) (by decide +kernel) (by decide +kernel)
theorem m368 : Cond.methodLink RX1 75 yX1_drawnIn ∈ gG := gG_mk (i := 368) (by decide +kernel) (by decide +kernel)
theorem m369 : Cond.static yX1_drawnIn ∈ gG := gG_mk (i := 369) (by decide +kernel) (by decide +kernel)
theorem m370 : Cond.code yX1_drawnIn cX1_drawnIn 5 (some .int) ∈ gG := gG_mk (i := 370) (by decide +kernel) (by decide +kernel)
theorem m371 : Cond.methodLink RX1 79 yJ9_floorDiv_7cf53 ∈ gG := gG_mk (i := 371) (by decide +kernel) (by decide +kernel)
theorem m372 : Cond.methodLink RX1 82 yX2_within ∈ gG := gG_mk (i := 372) (by decide +kernel) (by decide +kernel)
theorem m373 : Cond.methodLink RX1 56 yX1_ofBytes ∈ gG := gG_mk (i := 373) (by decide +kernel) (by decide +kernel)
theorem m374 : Cond.static yX1_ofBytes ∈ gG := gG_mk (i := 374) (by decide +kernel) (by decide +kernel)
theorem m375 : Cond.code yX1_ofBytes cX1_ofBytes 3 (some .int) ∈ gG := gG_mk (i := 375) (by decide +kernel) (by decide +kernel)
theorem m376 : Cond.methodLink RX1 9 yX2_mul ∈ gG := gG_mk (i := 376) (by decide +kernel) (by decide +kernel)
theorem m377 : Cond.methodLink RX1 15 yX2_union ∈ gG := gG_mk (i := 377) (by decide +kernel) (by decide +kernel)
theorem m378 : Cond.methodLink RX1 18 yX1_hardLight ∈ gG := gG_mk (i := 378) (by decide +kernel) (by decide +kernel)
theorem m379 : Cond.static yX1_hardLight ∈ gG := gG_mk (i := 379) (by decide +kernel) (by decide +kernel)
theorem m380 : Cond.code yX1_hardLight cX1_hardLight 2 (some .int) ∈ gG := gG_mk (i := 380) (by decide +kernel) (by decide +kernel)
theorem m381 : Cond.methodLink RX1 31 yX1_dodge ∈ gG := gG_mk (i := 381) (by decide +kernel) (by decide +kernel)
theorem m382 : Cond.static yX1_dodge ∈ gG := gG_mk (i := 382) (by decide +kernel) (by decide +kernel)
theorem m383 : Cond.code yX1_dodge cX1_dodge 3 (some .int) ∈ gG := gG_mk (i := 383) (by decide +kernel) (by decide +kernel)
theorem m384 : Cond.methodLink RX1 34 yX1_burn ∈ gG := gG_mk (i := 384) (by decide +kernel) (by decide +kernel)
theorem m385 : Cond.static yX1_burn ∈ gG := gG_mk (i := 385) (by decide +kernel) (by decide +kernel)
theorem m386 : Cond.code yX1_burn cX1_burn 2 (some .int) ∈ gG := gG_mk (i := 386) (by decide +kernel) (by decide +kernel)
theorem m387 : Cond.methodLink RX1 37 yX1_softLight ∈ gG := gG_mk (i := 387) (by decide +kernel) (by decide +kernel)
theorem m388 : Cond.static yX1_softLight ∈ gG := gG_mk (i := 388) (by decide +kernel) (by decide +kernel)
theorem m389 : Cond.code yX1_softLight cX1_softLight 2 (some .int) ∈ gG := gG_mk (i := 389) (by decide +kernel) (by decide +kernel)
theorem m390 : Cond.methodLink RX1 63 yX1_rootOf ∈ gG := gG_mk (i := 390) (by decide +kernel) (by decide +kernel)
theorem m391 : Cond.static yX1_rootOf ∈ gG := gG_mk (i := 391) (by decide +kernel) (by decide +kernel)
theorem m392 : Cond.code yX1_rootOf cX1_rootOf 4 (some .int) ∈ gG := gG_mk (i := 392) (by decide +kernel) (by decide +kernel)
abbrev wX1_dodge : List Cond := Cond.code yX1_dodge cX1_dodge 3 (some .int) :: gG
def wp_X1_dodge (p0 : Int32) (p1 : Int32) (P : Int32 → Prop) : Prop :=
  ((¬ p0 = 0 → ∀ v1 : Int32, v1 = (255 - p1) → ((v1 ≤ p0 → P 255) ∧
  (¬ v1 ≤ p0 → ((0 < v1 → (¬ v1 = 0 ∧ P (((255 * p0) + (v1 / 2)) / v1))) ∧
  (¬ 0 < v1 → P 255))))) ∧
  (p0 = 0 → P 0))
abbrev rm_X1_dodge : Room := { frames := 0, cells := 0, slots := 0, locals := 0 }
set_option maxHeartbeats 4000000 in
set_option maxRecDepth 100000 in
theorem c_X1_dodge (l : Launch) (p0 : Int32) (p1 : Int32) (P : Int32 → Prop) (hw : wp_X1_dodge p0 p1 P) : Met l yX1_dodge wX1_dodge rm_X1_dodge (xP0 [.int p0, .int p1]) (vp_Si P) 0 0 (fun _ => False) := by
  refine Met.ofW (cc := cX1_dodge) (maxL := 3) (ret := (some .int)) (by decide) rfl ?_
  intro p e s m args below meth c s₁ B hml hv
  obtain ⟨hargs, -⟩ := hv
  have hx := B.exec
  have hb := B.bytes
  have hr := B.returns
  have hts := atoms_spec (ws := wX1_dodge) B.pre
  have hown : s.vm.findClass RX1 = some m.cls := findClass_of_methodNamed B.named
  have hlocks := B.notSynchronized
  have hl := lv_entry ([.int p0, .int p1]) (n := 3) (Nat.le_of_ble_eq_true rfl)
  rw [show entryFrame m args 3 = entryFrame m (([.int p0, .int p1] : List Value).toArray) 3 from by rw [hargs], lg_entry_eq]
  generalize (lg_sl ([.int p0, .int p1]) ++ List.replicate (3 - (lg_sl ([.int p0, .int p1])).length) Slot.unset).toArray = ls at hl ⊢
  have hl : lv_has ls 3 [(0, .int p0), (1, .int p1)] := hl
  refine lv_iload_n hx hb dX1_dodge_0 rfl (lv_at hl 0 rfl) ?_
  refine lv_if_ne (tgt := 6) hx hb dX1_dodge_1 (by decide) (fun c4 => ?_) (fun c4 => ?_)
  · replace hw := And.left hw c4
    refine lv_sipush (v := 255) hx hb dX1_dodge_6 (by decide) ?_
    refine lv_iload_n hx hb dX1_dodge_9 rfl (lv_at hl 1 rfl) ?_
    refine lv_isub hx hb dX1_dodge_10 ?_
    refine lv_topi (fun v1 e_v1 => ?_)
    replace hw := hw v1 e_v1
    refine lv_istore_n (lv' := [(2, .int v1), (0, .int p0), (1, .int p1)]) hx hb dX1_dodge_11 rfl hl (by decide) rfl (fun ls hl => ?_)
    refine lv_iload_n hx hb dX1_dodge_12 rfl (lv_at hl 1 rfl) ?_
    refine lv_iload_n hx hb dX1_dodge_13 rfl (lv_at hl 0 rfl) ?_
    refine lv_icmp_ge (tgt := 21) hx hb dX1_dodge_14 (by decide) (fun c3 => ?_) (fun c3 => ?_)
    · replace hw := And.left hw c3
      refine lv_sipush (v := 255) hx hb dX1_dodge_21 (by decide) ?_
      exact W.iret hx hb hr (fun t ht hW => ⟨_, rfl, hw, ht⟩) (fun q h => by cases h) dX1_dodge_24
    · replace hw := And.right hw c3
      refine lv_iload_n hx hb dX1_dodge_17 rfl (lv_at hl 0 rfl) ?_
      refine lv_if_gt (tgt := 25) hx hb dX1_dodge_18 (by decide) (fun c2 => ?_) (fun c2 => ?_)
      · replace hw := And.left hw c2
        refine lv_sipush (v := 255) hx hb dX1_dodge_25 (by decide) ?_
        refine lv_iload_n hx hb dX1_dodge_28 rfl (lv_at hl 1 rfl) ?_
        refine lv_imul hx hb dX1_dodge_29 ?_
        refine lv_iload_n hx hb dX1_dodge_30 rfl (lv_at hl 0 rfl) ?_
        refine lv_iconst (v := 2) hx hb dX1_dodge_31 (by decide) ?_
        refine lv_idiv hx hb dX1_dodge_32 (by decide) ?_
        refine lv_iadd hx hb dX1_dodge_33 ?_
        refine lv_iload_n hx hb dX1_dodge_34 rfl (lv_at hl 0 rfl) ?_
        refine lv_idiv hx hb dX1_dodge_35 (And.left hw) ?_
        replace hw := And.right hw
        exact W.iret hx hb hr (fun t ht hW => ⟨_, rfl, hw, ht⟩) (fun q h => by cases h) dX1_dodge_36
      · replace hw := And.right hw c2
        refine lv_sipush (v := 255) hx hb dX1_dodge_21 (by decide) ?_
        exact W.iret hx hb hr (fun t ht hW => ⟨_, rfl, hw, ht⟩) (fun q h => by cases h) dX1_dodge_24
  · replace hw := And.right hw c4
    refine lv_iconst (v := 0) hx hb dX1_dodge_4 (by decide) ?_
    exact W.iret hx hb hr (fun t ht hW => ⟨_, rfl, hw, ht⟩) (fun q h => by cases h) dX1_dodge_5
abbrev wX1_burn : List Cond := Cond.code yX1_burn cX1_burn 2 (some .int) :: gG
def wp_X1_burn (p0 : Int32) (p1 : Int32) (P : Int32 → Prop) : Prop :=
  ((¬ p0 = 255 → (((p0 + p1) ≤ 255 → P 0) ∧
  (¬ (p0 + p1) ≤ 255 → ((0 < p1 → (¬ p1 = 0 ∧ P (255 - (((255 * (255 - p0)) + (p1 / 2)) / p1)))) ∧
  (¬ 0 < p1 → P 0))))) ∧
  (p0 = 255 → P 255))
abbrev rm_X1_burn : Room := { frames := 0, cells := 0, slots := 0, locals := 0 }
set_option maxHeartbeats 4000000 in
set_option maxRecDepth 100000 in
theorem c_X1_burn (l : Launch) (p0 : Int32) (p1 : Int32) (P : Int32 → Prop) (hw : wp_X1_burn p0 p1 P) : Met l yX1_burn wX1_burn rm_X1_burn (xP0 [.int p0, .int p1]) (vp_Si P) 0 0 (fun _ => False) := by
  refine Met.ofW (cc := cX1_burn) (maxL := 2) (ret := (some .int)) (by decide) rfl ?_
  intro p e s m args below meth c s₁ B hml hv
  obtain ⟨hargs, -⟩ := hv
  have hx := B.exec
  have hb := B.bytes
  have hr := B.returns
  have hts := atoms_spec (ws := wX1_burn) B.pre
  have hown : s.vm.findClass RX1 = some m.cls := findClass_of_methodNamed B.named
  have hlocks := B.notSynchronized
  have hl := lv_entry ([.int p0, .int p1]) (n := 2) (Nat.le_of_ble_eq_true rfl)
  rw [show entryFrame m args 2 = entryFrame m (([.int p0, .int p1] : List Value).toArray) 2 from by rw [hargs], lg_entry_eq]
  generalize (lg_sl ([.int p0, .int p1]) ++ List.replicate (2 - (lg_sl ([.int p0, .int p1])).length) Slot.unset).toArray = ls at hl ⊢
  have hl : lv_has ls 2 [(0, .int p0), (1, .int p1)] := hl
  refine lv_iload_n hx hb dX1_burn_0 rfl (lv_at hl 0 rfl) ?_
  refine lv_sipush (v := 255) hx hb dX1_burn_1 (by decide) ?_
  refine lv_icmp_ne (tgt := 11) hx hb dX1_burn_4 (by decide) (fun c3 => ?_) (fun c3 => ?_)
  · replace hw := And.left hw c3
    refine lv_iload_n hx hb dX1_burn_11 rfl (lv_at hl 0 rfl) ?_
    refine lv_iload_n hx hb dX1_burn_12 rfl (lv_at hl 1 rfl) ?_
    refine lv_iadd hx hb dX1_burn_13 ?_
    refine lv_sipush (v := 255) hx hb dX1_burn_14 (by decide) ?_
    refine lv_icmp_le (tgt := 24) hx hb dX1_burn_17 (by decide) (fun c2 => ?_) (fun c2 => ?_)
    · replace hw := And.left hw c2
      refine lv_iconst (v := 0) hx hb dX1_burn_24 (by decide) ?_
      exact W.iret hx hb hr (fun t ht hW => ⟨_, rfl, hw, ht⟩) (fun q h => by cases h) dX1_burn_25
    · replace hw := And.right hw c2
      refine lv_iload_n hx hb dX1_burn_20 rfl (lv_at hl 1 rfl) ?_
      refine lv_if_gt (tgt := 26) hx hb dX1_burn_21 (by decide) (fun c1 => ?_) (fun c1 => ?_)
      · replace hw := And.left hw c1
        refine lv_sipush (v := 255) hx hb dX1_burn_26 (by decide) ?_
        refine lv_sipush (v := 255) hx hb dX1_burn_29 (by decide) ?_
        refine lv_sipush (v := 255) hx hb dX1_burn_32 (by decide) ?_
        refine lv_iload_n hx hb dX1_burn_35 rfl (lv_at hl 0 rfl) ?_
        refine lv_isub hx hb dX1_burn_36 ?_
        refine lv_imul hx hb dX1_burn_37 ?_
        refine lv_iload_n hx hb dX1_burn_38 rfl (lv_at hl 1 rfl) ?_
        refine lv_iconst (v := 2) hx hb dX1_burn_39 (by decide) ?_
        refine lv_idiv hx hb dX1_burn_40 (by decide) ?_
        refine lv_iadd hx hb dX1_burn_41 ?_
        refine lv_iload_n hx hb dX1_burn_42 rfl (lv_at hl 1 rfl) ?_
        refine lv_idiv hx hb dX1_burn_43 (And.left hw) ?_
        replace hw := And.right hw
        refine lv_isub hx hb dX1_burn_44 ?_
        exact W.iret hx hb hr (fun t ht hW => ⟨_, rfl, hw, ht⟩) (fun q h => by cases h) dX1_burn_45
      · replace hw := And.right hw c1
        refine lv_iconst (v := 0) hx hb dX1_burn_24 (by decide) ?_
        exact W.iret hx hb hr (fun t ht hW => ⟨_, rfl, hw, ht⟩) (fun q h => by cases h) dX1_burn_25
  · replace hw := And.right hw c3
    refine lv_sipush (v := 255) hx hb dX1_burn_7 (by decide) ?_
    exact W.iret hx hb hr (fun t ht hW => ⟨_, rfl, hw, ht⟩) (fun q h => by cases h) dX1_burn_10
abbrev wX1_hardLight : List Cond := Cond.code yX1_hardLight cX1_hardLight 2 (some .int) :: gG
def wp_X1_hardLight (p0 : Int32) (p1 : Int32) (P : Int32 → Prop) : Prop :=
  ((127 < p1 → wp_X2_union p0 ((2 * p1) - 255) (fun r1 => P r1)) ∧
  (¬ 127 < p1 → wp_X2_mul p0 (2 * p1) (fun r2 => P r2)))
abbrev rm_X1_hardLight : Room := { frames := 2, cells := 0, slots := 0, locals := 42 }
set_option maxHeartbeats 4000000 in
set_option maxRecDepth 100000 in
theorem c_X1_hardLight (l : Launch) (p0 : Int32) (p1 : Int32) (P : Int32 → Prop) (hw : wp_X1_hardLight p0 p1 P) : Met l yX1_hardLight wX1_hardLight rm_X1_hardLight (xP0 [.int p0, .int p1]) (vp_Si P) 0 0 (fun _ => False) := by
  refine Met.ofW (cc := cX1_hardLight) (maxL := 2) (ret := (some .int)) (by decide) rfl ?_
  intro p e s m args below meth c s₁ B hml hv
  obtain ⟨hargs, -⟩ := hv
  have hx := B.exec
  have hb := B.bytes
  have hr := B.returns
  have hts := atoms_spec (ws := wX1_hardLight) B.pre
  have hown : s.vm.findClass RX1 = some m.cls := findClass_of_methodNamed B.named
  have hlocks := B.notSynchronized
  have hl := lv_entry ([.int p0, .int p1]) (n := 2) (Nat.le_of_ble_eq_true rfl)
  rw [show entryFrame m args 2 = entryFrame m (([.int p0, .int p1] : List Value).toArray) 2 from by rw [hargs], lg_entry_eq]
  generalize (lg_sl ([.int p0, .int p1]) ++ List.replicate (2 - (lg_sl ([.int p0, .int p1])).length) Slot.unset).toArray = ls at hl ⊢
  have hl : lv_has ls 2 [(0, .int p0), (1, .int p1)] := hl
  refine lv_iload_n hx hb dX1_hardLight_0 rfl (lv_at hl 1 rfl) ?_
  refine lv_bipush (v := 127) hx hb dX1_hardLight_1 (by decide) ?_
  refine lv_icmp_gt (tgt := 16) hx hb dX1_hardLight_3 (by decide) (fun c3 => ?_) (fun c3 => ?_)
  · replace hw := And.left hw c3
    refine lv_iload_n hx hb dX1_hardLight_16 rfl (lv_at hl 0 rfl) ?_
    refine lv_iconst (v := 2) hx hb dX1_hardLight_17 (by decide) ?_
    refine lv_iload_n hx hb dX1_hardLight_18 rfl (lv_at hl 1 rfl) ?_
    refine lv_imul hx hb dX1_hardLight_19 ?_
    refine lv_sipush (v := 255) hx hb dX1_hardLight_20 (by decide) ?_
    refine lv_isub hx hb dX1_hardLight_23 ?_
    refine vp_callSi (va_Run.run (va_runS (As := [.int p0, .int ((2 * p1) - 255)]) (rest := []) ⟨hx, hb, hml, hown, hts⟩ (c_X2_union l p0 ((2 * p1) - 255) _ hw) (gcS 2 hts m257 m377 m256 m30 rfl rfl (by decide +kernel) ⟨Nat.le_of_ble_eq_true rfl, Nat.le_of_ble_eq_true rfl⟩) ⟨xbl0, fun U hU hW => ⟨rfl, trivial⟩⟩ rfl rfl hl.1 rfl (lv_room (Nat.le_of_ble_eq_true rfl)) dX1_hardLight_24 ⟨Nat.le_of_ble_eq_true rfl, Nat.le_of_ble_eq_true rfl⟩)) (fun r1 hw => ?_)
    exact W.iret hx hb hr (fun t ht hW => ⟨_, rfl, hw, ht⟩) (fun q h => by cases h) dX1_hardLight_27
  · replace hw := And.right hw c3
    refine lv_iload_n hx hb dX1_hardLight_6 rfl (lv_at hl 0 rfl) ?_
    refine lv_iconst (v := 2) hx hb dX1_hardLight_7 (by decide) ?_
    refine lv_iload_n hx hb dX1_hardLight_8 rfl (lv_at hl 1 rfl) ?_
    refine lv_imul hx hb dX1_hardLight_9 ?_
    refine vp_callSi (va_Run.run (va_runS (As := [.int p0, .int (2 * p1)]) (rest := []) ⟨hx, hb, hml, hown, hts⟩ (c_X2_mul l p0 (2 * p1) _ hw) (gcS 2 hts m260 m376 m259 m30 rfl rfl (by decide +kernel) ⟨Nat.le_of_ble_eq_true rfl, Nat.le_of_ble_eq_true rfl⟩) ⟨xbl0, fun U hU hW => ⟨rfl, trivial⟩⟩ rfl rfl hl.1 rfl (lv_room (Nat.le_of_ble_eq_true rfl)) dX1_hardLight_10 ⟨Nat.le_of_ble_eq_true rfl, Nat.le_of_ble_eq_true rfl⟩)) (fun r2 hw => ?_)
    refine lv_goto (tgt := 27) hx hb dX1_hardLight_13 (by decide) ?_
    exact W.iret hx hb hr (fun t ht hW => ⟨_, rfl, hw, ht⟩) (fun q h => by cases h) dX1_hardLight_27
abbrev wX1_rootOf : List Cond := Cond.code yX1_rootOf cX1_rootOf 4 (some .int) :: gG
def wp_X1_rootOf_23 (K : Int32 → Int32 → Prop) (x0 : Int32) (x1 : Int32) (x2 : Int32) : Prop :=
  ∀ v2 : Int32, v2 = (x2 >>> (1 &&& 31)) → K x1 v2
def wp_X1_rootOf_6 (KX : Int32 → Prop) (x0 : Int32) : Nat → Int32 → Int32 → Prop
  | 0, _, _ => False
  | N6 + 1, x1, x2 =>
    ((x2 ≤ 0 → KX x1) ∧
  (¬ x2 ≤ 0 → ∀ v1 : Int32, v1 = (x1 + x2) → ((x0 < (v1 * v1) → wp_X1_rootOf_23 (wp_X1_rootOf_6 KX x0 N6) x0 x1 x2) ∧
  (¬ x0 < (v1 * v1) → wp_X1_rootOf_23 (wp_X1_rootOf_6 KX x0 N6) x0 v1 x2))))
def wp_X1_rootOf (p0 : Int32) (P : Int32 → Prop) : Prop :=
  (∃ N6, wp_X1_rootOf_6 (fun (y5 : Int32) => P y5) p0 N6 0 128)
abbrev rm_X1_rootOf : Room := { frames := 0, cells := 0, slots := 0, locals := 0 }
set_option maxHeartbeats 4000000 in
set_option maxRecDepth 100000 in
theorem c_X1_rootOf (l : Launch) (p0 : Int32) (P : Int32 → Prop) (hw : wp_X1_rootOf p0 P) : Met l yX1_rootOf wX1_rootOf rm_X1_rootOf (xP0 [.int p0]) (vp_Si P) 0 0 (fun _ => False) := by
  refine Met.ofW (cc := cX1_rootOf) (maxL := 4) (ret := (some .int)) (by decide) rfl ?_
  intro p e s m args below meth c s₁ B hml hv
  obtain ⟨hargs, -⟩ := hv
  have hx := B.exec
  have hb := B.bytes
  have hr := B.returns
  have hts := atoms_spec (ws := wX1_rootOf) B.pre
  have hown : s.vm.findClass RX1 = some m.cls := findClass_of_methodNamed B.named
  have hlocks := B.notSynchronized
  have J23 : ∀ (K : Int32 → Int32 → Prop) (x0 : Int32) (x1 : Int32) (x2 : Int32), wp_X1_rootOf_23 K x0 x1 x2 → (∀ (x1 : Int32) (x2 : Int32), K x1 x2 → ∀ (ls : Array Slot), lv_has ls 4 [(0, .int x0), (1, .int x1), (2, .int x2)] → W p l e (headSpec wX1_rootOf rm_X1_rootOf).room s m args below meth c s.heap [] 0 0 (MQ below (vp_Si P) args s 0 0 (fun _ => False)) (F0 m 6 ls [])) → ∀ (ls : Array Slot), lv_has ls 4 [(0, .int x0), (1, .int x1), (2, .int x2)] → W p l e (headSpec wX1_rootOf rm_X1_rootOf).room s m args below meth c s.heap [] 0 0 (MQ below (vp_Si P) args s 0 0 (fun _ => False)) (F0 m 23 ls []) := by
    intro K x0 x1 x2 hw hk ls hl
    refine lv_iload_n hx hb dX1_rootOf_23 rfl (lv_at hl 2 rfl) ?_
    refine lv_iconst (v := 1) hx hb dX1_rootOf_24 (by decide) ?_
    refine lv_ishr hx hb dX1_rootOf_25 ?_
    refine lv_topi (fun v2 e_v2 => ?_)
    replace hw := hw v2 e_v2
    refine lv_istore_n (lv' := [(2, .int v2), (0, .int x0), (1, .int x1)]) hx hb dX1_rootOf_26 rfl hl (by decide) rfl (fun ls hl => ?_)
    refine lv_goto (tgt := 6) hx hb dX1_rootOf_27 (by decide) ?_
    exact hk _ _ hw _ (lv_sub hl [1, 2, 0] rfl)
  have L6 : ∀ (KX : Int32 → Prop) (x0 : Int32), (∀ (x1 : Int32), KX x1 → ∀ (ls : Array Slot), lv_has ls 4 [(1, .int x1)] → W p l e (headSpec wX1_rootOf rm_X1_rootOf).room s m args below meth c s.heap [] 0 0 (MQ below (vp_Si P) args s 0 0 (fun _ => False)) (F0 m 30 ls [])) → ∀ (N : Nat) (x1 : Int32) (x2 : Int32), wp_X1_rootOf_6 KX x0 N x1 x2 → ∀ (ls : Array Slot), lv_has ls 4 [(0, .int x0), (1, .int x1), (2, .int x2)] → W p l e (headSpec wX1_rootOf rm_X1_rootOf).room s m args below meth c s.heap [] 0 0 (MQ below (vp_Si P) args s 0 0 (fun _ => False)) (F0 m 6 ls []) := by
    intro KX x0 hx2 N6
    induction N6 with
    | zero =>
      intro x1 x2 hw
      exact False.elim hw
    | succ N6 hk =>
      intro x1 x2 hw ls hl
      rw [wp_X1_rootOf_6] at hw
      refine lv_iload_n hx hb dX1_rootOf_6 rfl (lv_at hl 2 rfl) ?_
      refine lv_if_le (tgt := 30) hx hb dX1_rootOf_7 (by decide) (fun c4 => ?_) (fun c4 => ?_)
      · replace hw := And.left hw c4
        exact hx2 _ hw _ (lv_sub hl [1] rfl)
      · replace hw := And.right hw c4
        refine lv_iload_n hx hb dX1_rootOf_10 rfl (lv_at hl 1 rfl) ?_
        refine lv_iload_n hx hb dX1_rootOf_11 rfl (lv_at hl 2 rfl) ?_
        refine lv_iadd hx hb dX1_rootOf_12 ?_
        refine lv_topi (fun v1 e_v1 => ?_)
        replace hw := hw v1 e_v1
        refine lv_istore_n (lv' := [(3, .int v1), (0, .int x0), (1, .int x1), (2, .int x2)]) hx hb dX1_rootOf_13 rfl hl (by decide) rfl (fun ls hl => ?_)
        refine lv_iload_n hx hb dX1_rootOf_14 rfl (lv_at hl 0 rfl) ?_
        refine lv_iload_n hx hb dX1_rootOf_15 rfl (lv_at hl 0 rfl) ?_
        refine lv_imul hx hb dX1_rootOf_16 ?_
        refine lv_iload_n hx hb dX1_rootOf_17 rfl (lv_at hl 1 rfl) ?_
        refine lv_icmp_gt (tgt := 23) hx hb dX1_rootOf_18 (by decide) (fun c3 => ?_) (fun c3 => ?_)
        · replace hw := And.left hw c3
          exact J23 _ _ _ _ hw hk _ (lv_sub hl [1, 2, 3] rfl)
        · replace hw := And.right hw c3
          refine lv_iload_n hx hb dX1_rootOf_21 rfl (lv_at hl 0 rfl) ?_
          refine lv_istore_n (lv' := [(1, .int v1), (3, .int v1), (0, .int x0), (2, .int x2)]) hx hb dX1_rootOf_22 rfl hl (by decide) rfl (fun ls hl => ?_)
          exact J23 _ _ _ _ hw hk _ (lv_sub hl [2, 0, 3] rfl)
  have hl := lv_entry ([.int p0]) (n := 4) (Nat.le_of_ble_eq_true rfl)
  rw [show entryFrame m args 4 = entryFrame m (([.int p0] : List Value).toArray) 4 from by rw [hargs], lg_entry_eq]
  generalize (lg_sl ([.int p0]) ++ List.replicate (4 - (lg_sl ([.int p0])).length) Slot.unset).toArray = ls at hl ⊢
  have hl : lv_has ls 4 [(0, .int p0)] := hl
  refine lv_iconst (v := 0) hx hb dX1_rootOf_0 (by decide) ?_
  refine lv_istore_n (lv' := [(1, .int 0), (0, .int p0)]) hx hb dX1_rootOf_1 rfl hl (by decide) rfl (fun ls hl => ?_)
  refine lv_sipush (v := 128) hx hb dX1_rootOf_2 (by decide) ?_
  refine lv_istore_n (lv' := [(2, .int 128), (1, .int 0), (0, .int p0)]) hx hb dX1_rootOf_5 rfl hl (by decide) rfl (fun ls hl => ?_)
  obtain ⟨N6, hw⟩ := hw
  refine L6 _ _ (fun y5 hw ls hl => ?_) N6 _ _ hw _ (lv_sub hl [2, 1, 0] rfl)
  refine lv_iload_n hx hb dX1_rootOf_30 rfl (lv_at hl 0 rfl) ?_
  exact W.iret hx hb hr (fun t ht hW => ⟨_, rfl, hw, ht⟩) (fun q h => by cases h) dX1_rootOf_31
abbrev wX1_softLight : List Cond := Cond.code yX1_softLight cX1_softLight 2 (some .int) :: gG
def wp_X1_softLight (p0 : Int32) (p1 : Int32) (P : Int32 → Prop) : Prop :=
  ((127 < p1 → wp_X1_rootOf (255 * p0) (fun r1 => wp_X2_mul ((2 * p1) - 255) (r1 - p0) (fun r2 => P (p0 + r2)))) ∧
  (¬ 127 < p1 → wp_X2_mul p0 (255 - p0) (fun r3 => wp_X2_mul (255 - (2 * p1)) r3 (fun r4 => P (p0 - r4)))))
abbrev rm_X1_softLight : Room := { frames := 1, cells := 0, slots := 0, locals := 23 }
set_option maxHeartbeats 4000000 in
set_option maxRecDepth 100000 in
theorem c_X1_softLight (l : Launch) (p0 : Int32) (p1 : Int32) (P : Int32 → Prop) (hw : wp_X1_softLight p0 p1 P) : Met l yX1_softLight wX1_softLight rm_X1_softLight (xP0 [.int p0, .int p1]) (vp_Si P) 0 0 (fun _ => False) := by
  refine Met.ofW (cc := cX1_softLight) (maxL := 2) (ret := (some .int)) (by decide) rfl ?_
  intro p e s m args below meth c s₁ B hml hv
  obtain ⟨hargs, -⟩ := hv
  have hx := B.exec
  have hb := B.bytes
  have hr := B.returns
  have hts := atoms_spec (ws := wX1_softLight) B.pre
  have hown : s.vm.findClass RX1 = some m.cls := findClass_of_methodNamed B.named
  have hlocks := B.notSynchronized
  have hl := lv_entry ([.int p0, .int p1]) (n := 2) (Nat.le_of_ble_eq_true rfl)
  rw [show entryFrame m args 2 = entryFrame m (([.int p0, .int p1] : List Value).toArray) 2 from by rw [hargs], lg_entry_eq]
  generalize (lg_sl ([.int p0, .int p1]) ++ List.replicate (2 - (lg_sl ([.int p0, .int p1])).length) Slot.unset).toArray = ls at hl ⊢
  have hl : lv_has ls 2 [(0, .int p0), (1, .int p1)] := hl
  refine lv_iload_n hx hb dX1_softLight_0 rfl (lv_at hl 1 rfl) ?_
  refine lv_bipush (v := 127) hx hb dX1_softLight_1 (by decide) ?_
  refine lv_icmp_gt (tgt := 28) hx hb dX1_softLight_3 (by decide) (fun c5 => ?_) (fun c5 => ?_)
  · replace hw := And.left hw c5
    refine lv_iload_n hx hb dX1_softLight_28 rfl (lv_at hl 0 rfl) ?_
    refine lv_iconst (v := 2) hx hb dX1_softLight_29 (by decide) ?_
    refine lv_iload_n hx hb dX1_softLight_30 rfl (lv_at hl 1 rfl) ?_
    refine lv_imul hx hb dX1_softLight_31 ?_
    refine lv_sipush (v := 255) hx hb dX1_softLight_32 (by decide) ?_
    refine lv_isub hx hb dX1_softLight_35 ?_
    refine lv_sipush (v := 255) hx hb dX1_softLight_36 (by decide) ?_
    refine lv_iload_n hx hb dX1_softLight_39 rfl (lv_at hl 0 rfl) ?_
    refine lv_imul hx hb dX1_softLight_40 ?_
    refine vp_callSi (va_Run.run (va_runS (As := [.int (255 * p0)]) (rest := [.int ((2 * p1) - 255), .int p0]) ⟨hx, hb, hml, hown, hts⟩ (c_X1_rootOf l (255 * p0) _ hw) (gcS 1 hts m392 m390 m391 m32 rfl rfl (by decide +kernel) ⟨Nat.le_of_ble_eq_true rfl, Nat.le_of_ble_eq_true rfl⟩) ⟨xbl0, fun U hU hW => ⟨rfl, trivial⟩⟩ rfl rfl hl.1 rfl (lv_room (Nat.le_of_ble_eq_true rfl)) dX1_softLight_41 ⟨Nat.le_of_ble_eq_true rfl, Nat.le_of_ble_eq_true rfl⟩)) (fun r1 hw => ?_)
    refine lv_iload_n hx hb dX1_softLight_44 rfl (lv_at hl 0 rfl) ?_
    refine lv_isub hx hb dX1_softLight_45 ?_
    refine vp_callSi (va_Run.run (va_runS (As := [.int ((2 * p1) - 255), .int (r1 - p0)]) (rest := [.int p0]) ⟨hx, hb, hml, hown, hts⟩ (c_X2_mul l ((2 * p1) - 255) (r1 - p0) _ hw) (gcS 2 hts m260 m376 m259 m30 rfl rfl (by decide +kernel) ⟨Nat.le_of_ble_eq_true rfl, Nat.le_of_ble_eq_true rfl⟩) ⟨xbl0, fun U hU hW => ⟨rfl, trivial⟩⟩ rfl rfl hl.1 rfl (lv_room (Nat.le_of_ble_eq_true rfl)) dX1_softLight_46 ⟨Nat.le_of_ble_eq_true rfl, Nat.le_of_ble_eq_true rfl⟩)) (fun r2 hw => ?_)
    refine lv_iadd hx hb dX1_softLight_49 ?_
    exact W.iret hx hb hr (fun t ht hW => ⟨_, rfl, hw, ht⟩) (fun q h => by cases h) dX1_softLight_50
  · replace hw := And.right hw c5
    refine lv_iload_n hx hb dX1_softLight_6 rfl (lv_at hl 0 rfl) ?_
    refine lv_sipush (v := 255) hx hb dX1_softLight_7 (by decide) ?_
    refine lv_iconst (v := 2) hx hb dX1_softLight_10 (by decide) ?_
    refine lv_iload_n hx hb dX1_softLight_11 rfl (lv_at hl 1 rfl) ?_
    refine lv_imul hx hb dX1_softLight_12 ?_
    refine lv_isub hx hb dX1_softLight_13 ?_
    refine lv_iload_n hx hb dX1_softLight_14 rfl (lv_at hl 0 rfl) ?_
    refine lv_sipush (v := 255) hx hb dX1_softLight_15 (by decide) ?_
    refine lv_iload_n hx hb dX1_softLight_18 rfl (lv_at hl 0 rfl) ?_
    refine lv_isub hx hb dX1_softLight_19 ?_
    refine vp_callSi (va_Run.run (va_runS (As := [.int p0, .int (255 - p0)]) (rest := [.int (255 - (2 * p1)), .int p0]) ⟨hx, hb, hml, hown, hts⟩ (c_X2_mul l p0 (255 - p0) _ hw) (gcS 2 hts m260 m376 m259 m30 rfl rfl (by decide +kernel) ⟨Nat.le_of_ble_eq_true rfl, Nat.le_of_ble_eq_true rfl⟩) ⟨xbl0, fun U hU hW => ⟨rfl, trivial⟩⟩ rfl rfl hl.1 rfl (lv_room (Nat.le_of_ble_eq_true rfl)) dX1_softLight_20 ⟨Nat.le_of_ble_eq_true rfl, Nat.le_of_ble_eq_true rfl⟩)) (fun r3 hw => ?_)
    refine vp_callSi (va_Run.run (va_runS (As := [.int (255 - (2 * p1)), .int r3]) (rest := [.int p0]) ⟨hx, hb, hml, hown, hts⟩ (c_X2_mul l (255 - (2 * p1)) r3 _ hw) (gcS 2 hts m260 m376 m259 m30 rfl rfl (by decide +kernel) ⟨Nat.le_of_ble_eq_true rfl, Nat.le_of_ble_eq_true rfl⟩) ⟨xbl0, fun U hU hW => ⟨rfl, trivial⟩⟩ rfl rfl hl.1 rfl (lv_room (Nat.le_of_ble_eq_true rfl)) dX1_softLight_23 ⟨Nat.le_of_ble_eq_true rfl, Nat.le_of_ble_eq_true rfl⟩)) (fun r4 hw => ?_)
    refine lv_isub hx hb dX1_softLight_26 ?_
    exact W.iret hx hb hr (fun t ht hW => ⟨_, rfl, hw, ht⟩) (fun q h => by cases h) dX1_softLight_27
abbrev wX1_lumOf : List Cond := Cond.code yX1_lumOf cX1_lumOf 1 (some .int) :: gG
def wp_X1_lumOf (p0 : Int32) (P : Int32 → Prop) : Prop :=
  wp_X2_bandOf p0 0 (fun r1 => wp_X2_bandOf p0 1 (fun r2 => wp_X2_bandOf p0 2 (fun r3 => wp_X2_lum r1 r2 r3 (fun r4 => P r4))))
abbrev rm_X1_lumOf : Room := { frames := 2, cells := 0, slots := 0, locals := 44 }
set_option maxHeartbeats 4000000 in
set_option maxRecDepth 100000 in
theorem c_X1_lumOf (l : Launch) (p0 : Int32) (P : Int32 → Prop) (hw : wp_X1_lumOf p0 P) : Met l yX1_lumOf wX1_lumOf rm_X1_lumOf (xP0 [.int p0]) (vp_Si P) 0 0 (fun _ => False) := by
  refine Met.ofW (cc := cX1_lumOf) (maxL := 1) (ret := (some .int)) (by decide) rfl ?_
  intro p e s m args below meth c s₁ B hml hv
  obtain ⟨hargs, -⟩ := hv
  have hx := B.exec
  have hb := B.bytes
  have hr := B.returns
  have hts := atoms_spec (ws := wX1_lumOf) B.pre
  have hown : s.vm.findClass RX1 = some m.cls := findClass_of_methodNamed B.named
  have hlocks := B.notSynchronized
  have hl := lv_entry ([.int p0]) (n := 1) (Nat.le_of_ble_eq_true rfl)
  rw [show entryFrame m args 1 = entryFrame m (([.int p0] : List Value).toArray) 1 from by rw [hargs], lg_entry_eq]
  generalize (lg_sl ([.int p0]) ++ List.replicate (1 - (lg_sl ([.int p0])).length) Slot.unset).toArray = ls at hl ⊢
  have hl : lv_has ls 1 [(0, .int p0)] := hl
  refine lv_iload_n hx hb dX1_lumOf_0 rfl (lv_at hl 0 rfl) ?_
  refine lv_iconst (v := 0) hx hb dX1_lumOf_1 (by decide) ?_
  refine vp_callSi (va_Run.run (va_runS (As := [.int p0, .int 0]) (rest := []) ⟨hx, hb, hml, hown, hts⟩ (c_X2_bandOf l p0 0 _ hw) (gcS 2 hts m320 m343 m319 m30 rfl rfl (by decide +kernel) ⟨Nat.le_of_ble_eq_true rfl, Nat.le_of_ble_eq_true rfl⟩) ⟨xbl0, fun U hU hW => ⟨rfl, trivial⟩⟩ rfl rfl hl.1 rfl (lv_room (Nat.le_of_ble_eq_true rfl)) dX1_lumOf_2 ⟨Nat.le_of_ble_eq_true rfl, Nat.le_of_ble_eq_true rfl⟩)) (fun r1 hw => ?_)
  refine lv_iload_n hx hb dX1_lumOf_5 rfl (lv_at hl 0 rfl) ?_
  refine lv_iconst (v := 1) hx hb dX1_lumOf_6 (by decide) ?_
  refine vp_callSi (va_Run.run (va_runS (As := [.int p0, .int 1]) (rest := [.int r1]) ⟨hx, hb, hml, hown, hts⟩ (c_X2_bandOf l p0 1 _ hw) (gcS 2 hts m320 m343 m319 m30 rfl rfl (by decide +kernel) ⟨Nat.le_of_ble_eq_true rfl, Nat.le_of_ble_eq_true rfl⟩) ⟨xbl0, fun U hU hW => ⟨rfl, trivial⟩⟩ rfl rfl hl.1 rfl (lv_room (Nat.le_of_ble_eq_true rfl)) dX1_lumOf_7 ⟨Nat.le_of_ble_eq_true rfl, Nat.le_of_ble_eq_true rfl⟩)) (fun r2 hw => ?_)
  refine lv_iload_n hx hb dX1_lumOf_10 rfl (lv_at hl 0 rfl) ?_
  refine lv_iconst (v := 2) hx hb dX1_lumOf_11 (by decide) ?_
  refine vp_callSi (va_Run.run (va_runS (As := [.int p0, .int 2]) (rest := [.int r2, .int r1]) ⟨hx, hb, hml, hown, hts⟩ (c_X2_bandOf l p0 2 _ hw) (gcS 2 hts m320 m343 m319 m30 rfl rfl (by decide +kernel) ⟨Nat.le_of_ble_eq_true rfl, Nat.le_of_ble_eq_true rfl⟩) ⟨xbl0, fun U hU hW => ⟨rfl, trivial⟩⟩ rfl rfl hl.1 rfl (lv_room (Nat.le_of_ble_eq_true rfl)) dX1_lumOf_12 ⟨Nat.le_of_ble_eq_true rfl, Nat.le_of_ble_eq_true rfl⟩)) (fun r3 hw => ?_)
  refine vp_callSi (va_Run.run (va_runS (As := [.int r1, .int r2, .int r3]) (rest := []) ⟨hx, hb, hml, hown, hts⟩ (c_X2_lum l r1 r2 r3 _ hw) (gcS 3 hts m361 m359 m360 m30 rfl rfl (by decide +kernel) ⟨Nat.le_of_ble_eq_true rfl, Nat.le_of_ble_eq_true rfl⟩) ⟨xbl0, fun U hU hW => ⟨rfl, trivial⟩⟩ rfl rfl hl.1 rfl (lv_room (Nat.le_of_ble_eq_true rfl)) dX1_lumOf_15 ⟨Nat.le_of_ble_eq_true rfl, Nat.le_of_ble_eq_true rfl⟩)) (fun r4 hw => ?_)
  exact W.iret hx hb hr (fun t ht hW => ⟨_, rfl, hw, ht⟩) (fun q h => by cases h) dX1_lumOf_18
abbrev wX1_leastOf : List Cond := Cond.code yX1_leastOf cX1_leastOf 3 (some .int) :: gG
def wp_X1_leastOf (p0 : Int32) (p1 : Int32) (p2 : Int32) (P : Int32 → Prop) : Prop :=
  P (if (if p2 < p1 then p2 else p1) < p0 then (if p2 < p1 then p2 else p1) else p0)
abbrev rm_X1_leastOf : Room := { frames := 1, cells := 0, slots := 0, locals := 21 }
set_option maxHeartbeats 4000000 in
set_option maxRecDepth 100000 in
theorem c_X1_leastOf (l : Launch) (p0 : Int32) (p1 : Int32) (p2 : Int32) (P : Int32 → Prop) (hw : wp_X1_leastOf p0 p1 p2 P) : Met l yX1_leastOf wX1_leastOf rm_X1_leastOf (xP0 [.int p0, .int p1, .int p2]) (vp_Si P) 0 0 (fun _ => False) := by
  refine Met.ofW (cc := cX1_leastOf) (maxL := 3) (ret := (some .int)) (by decide) rfl ?_
  intro p e s m args below meth c s₁ B hml hv
  obtain ⟨hargs, -⟩ := hv
  have hx := B.exec
  have hb := B.bytes
  have hr := B.returns
  have hts := atoms_spec (ws := wX1_leastOf) B.pre
  have hown : s.vm.findClass RX1 = some m.cls := findClass_of_methodNamed B.named
  have hlocks := B.notSynchronized
  have hl := lv_entry ([.int p0, .int p1, .int p2]) (n := 3) (Nat.le_of_ble_eq_true rfl)
  rw [show entryFrame m args 3 = entryFrame m (([.int p0, .int p1, .int p2] : List Value).toArray) 3 from by rw [hargs], lg_entry_eq]
  generalize (lg_sl ([.int p0, .int p1, .int p2]) ++ List.replicate (3 - (lg_sl ([.int p0, .int p1, .int p2])).length) Slot.unset).toArray = ls at hl ⊢
  have hl : lv_has ls 3 [(0, .int p0), (1, .int p1), (2, .int p2)] := hl
  refine lv_iload_n hx hb dX1_leastOf_0 rfl (lv_at hl 0 rfl) ?_
  refine lv_iload_n hx hb dX1_leastOf_1 rfl (lv_at hl 1 rfl) ?_
  refine lv_iload_n hx hb dX1_leastOf_2 rfl (lv_at hl 2 rfl) ?_
  refine va_mmin hx hb (hml.trans hl.1.symm) hown (hts _ (xm m351)) (hts _ (xm m44)) (hts _ (xm m22)) (hts _ (xm m45)) (Nat.le_of_ble_eq_true rfl) (Nat.le_of_ble_eq_true rfl) (Nat.le_of_ble_eq_true rfl) (Nat.le_of_ble_eq_true rfl) dX1_leastOf_3 ?_
  refine va_mmin hx hb (hml.trans hl.1.symm) hown (hts _ (xm m351)) (hts _ (xm m44)) (hts _ (xm m22)) (hts _ (xm m45)) (Nat.le_of_ble_eq_true rfl) (Nat.le_of_ble_eq_true rfl) (Nat.le_of_ble_eq_true rfl) (Nat.le_of_ble_eq_true rfl) dX1_leastOf_6 ?_
  exact W.iret hx hb hr (fun t ht hW => ⟨_, rfl, hw, ht⟩) (fun q h => by cases h) dX1_leastOf_9
abbrev wX1_mostOf : List Cond := Cond.code yX1_mostOf cX1_mostOf 3 (some .int) :: gG
def wp_X1_mostOf (p0 : Int32) (p1 : Int32) (p2 : Int32) (P : Int32 → Prop) : Prop :=
  P (if p0 < (if p1 < p2 then p2 else p1) then (if p1 < p2 then p2 else p1) else p0)
abbrev rm_X1_mostOf : Room := { frames := 1, cells := 0, slots := 0, locals := 21 }
set_option maxHeartbeats 4000000 in
set_option maxRecDepth 100000 in
theorem c_X1_mostOf (l : Launch) (p0 : Int32) (p1 : Int32) (p2 : Int32) (P : Int32 → Prop) (hw : wp_X1_mostOf p0 p1 p2 P) : Met l yX1_mostOf wX1_mostOf rm_X1_mostOf (xP0 [.int p0, .int p1, .int p2]) (vp_Si P) 0 0 (fun _ => False) := by
  refine Met.ofW (cc := cX1_mostOf) (maxL := 3) (ret := (some .int)) (by decide) rfl ?_
  intro p e s m args below meth c s₁ B hml hv
  obtain ⟨hargs, -⟩ := hv
  have hx := B.exec
  have hb := B.bytes
  have hr := B.returns
  have hts := atoms_spec (ws := wX1_mostOf) B.pre
  have hown : s.vm.findClass RX1 = some m.cls := findClass_of_methodNamed B.named
  have hlocks := B.notSynchronized
  have hl := lv_entry ([.int p0, .int p1, .int p2]) (n := 3) (Nat.le_of_ble_eq_true rfl)
  rw [show entryFrame m args 3 = entryFrame m (([.int p0, .int p1, .int p2] : List Value).toArray) 3 from by rw [hargs], lg_entry_eq]
  generalize (lg_sl ([.int p0, .int p1, .int p2]) ++ List.replicate (3 - (lg_sl ([.int p0, .int p1, .int p2])).length) Slot.unset).toArray = ls at hl ⊢
  have hl : lv_has ls 3 [(0, .int p0), (1, .int p1), (2, .int p2)] := hl
  refine lv_iload_n hx hb dX1_mostOf_0 rfl (lv_at hl 0 rfl) ?_
  refine lv_iload_n hx hb dX1_mostOf_1 rfl (lv_at hl 1 rfl) ?_
  refine lv_iload_n hx hb dX1_mostOf_2 rfl (lv_at hl 2 rfl) ?_
  refine va_mmax hx hb (hml.trans hl.1.symm) hown (hts _ (xm m347)) (hts _ (xm m47)) (hts _ (xm m22)) (hts _ (xm m48)) (Nat.le_of_ble_eq_true rfl) (Nat.le_of_ble_eq_true rfl) (Nat.le_of_ble_eq_true rfl) (Nat.le_of_ble_eq_true rfl) dX1_mostOf_3 ?_
  refine va_mmax hx hb (hml.trans hl.1.symm) hown (hts _ (xm m347)) (hts _ (xm m47)) (hts _ (xm m22)) (hts _ (xm m48)) (Nat.le_of_ble_eq_true rfl) (Nat.le_of_ble_eq_true rfl) (Nat.le_of_ble_eq_true rfl) (Nat.le_of_ble_eq_true rfl) dX1_mostOf_6 ?_
  exact W.iret hx hb hr (fun t ht hW => ⟨_, rfl, hw, ht⟩) (fun q h => by cases h) dX1_mostOf_9
abbrev wX1_satOf : List Cond := Cond.code yX1_satOf cX1_satOf 4 (some .int) :: gG
def wp_X1_satOf (p0 : Int32) (P : Int32 → Prop) : Prop :=
  wp_X2_bandOf p0 0 (fun r1 => wp_X2_bandOf p0 1 (fun r2 => wp_X2_bandOf p0 2 (fun r3 => wp_X1_mostOf r1 r2 r3 (fun r4 => wp_X1_leastOf r1 r2 r3 (fun r5 => P (r4 - r5))))))
abbrev rm_X1_satOf : Room := { frames := 2, cells := 0, slots := 0, locals := 43 }
set_option maxHeartbeats 4000000 in
set_option maxRecDepth 100000 in
theorem c_X1_satOf (l : Launch) (p0 : Int32) (P : Int32 → Prop) (hw : wp_X1_satOf p0 P) : Met l yX1_satOf wX1_satOf rm_X1_satOf (xP0 [.int p0]) (vp_Si P) 0 0 (fun _ => False) := by
  refine Met.ofW (cc := cX1_satOf) (maxL := 4) (ret := (some .int)) (by decide) rfl ?_
  intro p e s m args below meth c s₁ B hml hv
  obtain ⟨hargs, -⟩ := hv
  have hx := B.exec
  have hb := B.bytes
  have hr := B.returns
  have hts := atoms_spec (ws := wX1_satOf) B.pre
  have hown : s.vm.findClass RX1 = some m.cls := findClass_of_methodNamed B.named
  have hlocks := B.notSynchronized
  have hl := lv_entry ([.int p0]) (n := 4) (Nat.le_of_ble_eq_true rfl)
  rw [show entryFrame m args 4 = entryFrame m (([.int p0] : List Value).toArray) 4 from by rw [hargs], lg_entry_eq]
  generalize (lg_sl ([.int p0]) ++ List.replicate (4 - (lg_sl ([.int p0])).length) Slot.unset).toArray = ls at hl ⊢
  have hl : lv_has ls 4 [(0, .int p0)] := hl
  refine lv_iload_n hx hb dX1_satOf_0 rfl (lv_at hl 0 rfl) ?_
  refine lv_iconst (v := 0) hx hb dX1_satOf_1 (by decide) ?_
  refine vp_callSi (va_Run.run (va_runS (As := [.int p0, .int 0]) (rest := []) ⟨hx, hb, hml, hown, hts⟩ (c_X2_bandOf l p0 0 _ hw) (gcS 2 hts m320 m343 m319 m30 rfl rfl (by decide +kernel) ⟨Nat.le_of_ble_eq_true rfl, Nat.le_of_ble_eq_true rfl⟩) ⟨xbl0, fun U hU hW => ⟨rfl, trivial⟩⟩ rfl rfl hl.1 rfl (lv_room (Nat.le_of_ble_eq_true rfl)) dX1_satOf_2 ⟨Nat.le_of_ble_eq_true rfl, Nat.le_of_ble_eq_true rfl⟩)) (fun r1 hw => ?_)
  refine lv_istore_n (lv' := [(1, .int r1), (0, .int p0)]) hx hb dX1_satOf_5 rfl hl (by decide) rfl (fun ls hl => ?_)
  refine lv_iload_n hx hb dX1_satOf_6 rfl (lv_at hl 1 rfl) ?_
  refine lv_iconst (v := 1) hx hb dX1_satOf_7 (by decide) ?_
  refine vp_callSi (va_Run.run (va_runS (As := [.int p0, .int 1]) (rest := []) ⟨hx, hb, hml, hown, hts⟩ (c_X2_bandOf l p0 1 _ hw) (gcS 2 hts m320 m343 m319 m30 rfl rfl (by decide +kernel) ⟨Nat.le_of_ble_eq_true rfl, Nat.le_of_ble_eq_true rfl⟩) ⟨xbl0, fun U hU hW => ⟨rfl, trivial⟩⟩ rfl rfl hl.1 rfl (lv_room (Nat.le_of_ble_eq_true rfl)) dX1_satOf_8 ⟨Nat.le_of_ble_eq_true rfl, Nat.le_of_ble_eq_true rfl⟩)) (fun r2 hw => ?_)
  refine lv_istore_n (lv' := [(2, .int r2), (1, .int r1), (0, .int p0)]) hx hb dX1_satOf_11 rfl hl (by decide) rfl (fun ls hl => ?_)
  refine lv_iload_n hx hb dX1_satOf_12 rfl (lv_at hl 2 rfl) ?_
  refine lv_iconst (v := 2) hx hb dX1_satOf_13 (by decide) ?_
  refine vp_callSi (va_Run.run (va_runS (As := [.int p0, .int 2]) (rest := []) ⟨hx, hb, hml, hown, hts⟩ (c_X2_bandOf l p0 2 _ hw) (gcS 2 hts m320 m343 m319 m30 rfl rfl (by decide +kernel) ⟨Nat.le_of_ble_eq_true rfl, Nat.le_of_ble_eq_true rfl⟩) ⟨xbl0, fun U hU hW => ⟨rfl, trivial⟩⟩ rfl rfl hl.1 rfl (lv_room (Nat.le_of_ble_eq_true rfl)) dX1_satOf_14 ⟨Nat.le_of_ble_eq_true rfl, Nat.le_of_ble_eq_true rfl⟩)) (fun r3 hw => ?_)
  refine lv_istore_n (lv' := [(3, .int r3), (2, .int r2), (1, .int r1), (0, .int p0)]) hx hb dX1_satOf_17 rfl hl (by decide) rfl (fun ls hl => ?_)
  refine lv_iload_n hx hb dX1_satOf_18 rfl (lv_at hl 2 rfl) ?_
  refine lv_iload_n hx hb dX1_satOf_19 rfl (lv_at hl 1 rfl) ?_
  refine lv_iload_n hx hb dX1_satOf_20 rfl (lv_at hl 0 rfl) ?_
  refine vp_callSi (va_Run.run (va_runS (As := [.int r1, .int r2, .int r3]) (rest := []) ⟨hx, hb, hml, hown, hts⟩ (c_X1_mostOf l r1 r2 r3 _ hw) (gcS 3 hts m346 m344 m345 m32 rfl rfl (by decide +kernel) ⟨Nat.le_of_ble_eq_true rfl, Nat.le_of_ble_eq_true rfl⟩) ⟨xbl0, fun U hU hW => ⟨rfl, trivial⟩⟩ rfl rfl hl.1 rfl (lv_room (Nat.le_of_ble_eq_true rfl)) dX1_satOf_21 ⟨Nat.le_of_ble_eq_true rfl, Nat.le_of_ble_eq_true rfl⟩)) (fun r4 hw => ?_)
  refine lv_iload_n hx hb dX1_satOf_24 rfl (lv_at hl 2 rfl) ?_
  refine lv_iload_n hx hb dX1_satOf_25 rfl (lv_at hl 1 rfl) ?_
  refine lv_iload_n hx hb dX1_satOf_26 rfl (lv_at hl 0 rfl) ?_
  refine vp_callSi (va_Run.run (va_runS (As := [.int r1, .int r2, .int r3]) (rest := [.int r4]) ⟨hx, hb, hml, hown, hts⟩ (c_X1_leastOf l r1 r2 r3 _ hw) (gcS 3 hts m350 m348 m349 m32 rfl rfl (by decide +kernel) ⟨Nat.le_of_ble_eq_true rfl, Nat.le_of_ble_eq_true rfl⟩) ⟨xbl0, fun U hU hW => ⟨rfl, trivial⟩⟩ rfl rfl hl.1 rfl (lv_room (Nat.le_of_ble_eq_true rfl)) dX1_satOf_27 ⟨Nat.le_of_ble_eq_true rfl, Nat.le_of_ble_eq_true rfl⟩)) (fun r5 hw => ?_)
  refine lv_isub hx hb dX1_satOf_30 ?_
  exact W.iret hx hb hr (fun t ht hW => ⟨_, rfl, hw, ht⟩) (fun q h => by cases h) dX1_satOf_31
abbrev wX1_withSat : List Cond := Cond.code yX1_withSat cX1_withSat 7 (some .int) :: gG
def wp_X1_withSat (p0 : Int32) (p1 : Int32) (P : Int32 → Prop) : Prop :=
  wp_X1_satOf p0 (fun r1 => ((0 < r1 → wp_X2_bandOf p0 0 (fun r2 => wp_X2_bandOf p0 1 (fun r3 => wp_X2_bandOf p0 2 (fun r4 => wp_X1_leastOf r2 r3 r4 (fun r5 => (¬ r1 = 0 ∧ (¬ r1 = 0 ∧ (¬ r1 = 0 ∧ wp_X2_packed (((r2 - r5) * p1) / r1) (((r3 - r5) * p1) / r1) (((r4 - r5) * p1) / r1) (fun r6 => P r6))))))))) ∧
  (¬ 0 < r1 → P 0)))
abbrev rm_X1_withSat : Room := { frames := 3, cells := 0, slots := 0, locals := 66 }
set_option maxHeartbeats 4000000 in
set_option maxRecDepth 100000 in
theorem c_X1_withSat (l : Launch) (p0 : Int32) (p1 : Int32) (P : Int32 → Prop) (hw : wp_X1_withSat p0 p1 P) : Met l yX1_withSat wX1_withSat rm_X1_withSat (xP0 [.int p0, .int p1]) (vp_Si P) 0 0 (fun _ => False) := by
  refine Met.ofW (cc := cX1_withSat) (maxL := 7) (ret := (some .int)) (by decide) rfl ?_
  intro p e s m args below meth c s₁ B hml hv
  obtain ⟨hargs, -⟩ := hv
  have hx := B.exec
  have hb := B.bytes
  have hr := B.returns
  have hts := atoms_spec (ws := wX1_withSat) B.pre
  have hown : s.vm.findClass RX1 = some m.cls := findClass_of_methodNamed B.named
  have hlocks := B.notSynchronized
  have hl := lv_entry ([.int p0, .int p1]) (n := 7) (Nat.le_of_ble_eq_true rfl)
  rw [show entryFrame m args 7 = entryFrame m (([.int p0, .int p1] : List Value).toArray) 7 from by rw [hargs], lg_entry_eq]
  generalize (lg_sl ([.int p0, .int p1]) ++ List.replicate (7 - (lg_sl ([.int p0, .int p1])).length) Slot.unset).toArray = ls at hl ⊢
  have hl : lv_has ls 7 [(0, .int p0), (1, .int p1)] := hl
  refine lv_iload_n hx hb dX1_withSat_0 rfl (lv_at hl 0 rfl) ?_
  refine vp_callSi (va_Run.run (va_runS (As := [.int p0]) (rest := []) ⟨hx, hb, hml, hown, hts⟩ (c_X1_satOf l p0 _ hw) (gcS 1 hts m342 m340 m341 m32 rfl rfl (by decide +kernel) ⟨Nat.le_of_ble_eq_true rfl, Nat.le_of_ble_eq_true rfl⟩) ⟨xbl0, fun U hU hW => ⟨rfl, trivial⟩⟩ rfl rfl hl.1 rfl (lv_room (Nat.le_of_ble_eq_true rfl)) dX1_withSat_1 ⟨Nat.le_of_ble_eq_true rfl, Nat.le_of_ble_eq_true rfl⟩)) (fun r1 hw => ?_)
  refine lv_istore_n (lv' := [(2, .int r1), (0, .int p0), (1, .int p1)]) hx hb dX1_withSat_4 rfl hl (by decide) rfl (fun ls hl => ?_)
  refine lv_iload_n hx hb dX1_withSat_5 rfl (lv_at hl 0 rfl) ?_
  refine lv_if_gt (tgt := 11) hx hb dX1_withSat_6 (by decide) (fun c7 => ?_) (fun c7 => ?_)
  · replace hw := And.left hw c7
    refine lv_iload_n hx hb dX1_withSat_11 rfl (lv_at hl 1 rfl) ?_
    refine lv_iconst (v := 0) hx hb dX1_withSat_12 (by decide) ?_
    refine vp_callSi (va_Run.run (va_runS (As := [.int p0, .int 0]) (rest := []) ⟨hx, hb, hml, hown, hts⟩ (c_X2_bandOf l p0 0 _ hw) (gcS 2 hts m320 m343 m319 m30 rfl rfl (by decide +kernel) ⟨Nat.le_of_ble_eq_true rfl, Nat.le_of_ble_eq_true rfl⟩) ⟨xbl0, fun U hU hW => ⟨rfl, trivial⟩⟩ rfl rfl hl.1 rfl (lv_room (Nat.le_of_ble_eq_true rfl)) dX1_withSat_13 ⟨Nat.le_of_ble_eq_true rfl, Nat.le_of_ble_eq_true rfl⟩)) (fun r2 hw => ?_)
    refine lv_istore_n (lv' := [(3, .int r2), (2, .int r1), (0, .int p0), (1, .int p1)]) hx hb dX1_withSat_16 rfl hl (by decide) rfl (fun ls hl => ?_)
    refine lv_iload_n hx hb dX1_withSat_17 rfl (lv_at hl 2 rfl) ?_
    refine lv_iconst (v := 1) hx hb dX1_withSat_18 (by decide) ?_
    refine vp_callSi (va_Run.run (va_runS (As := [.int p0, .int 1]) (rest := []) ⟨hx, hb, hml, hown, hts⟩ (c_X2_bandOf l p0 1 _ hw) (gcS 2 hts m320 m343 m319 m30 rfl rfl (by decide +kernel) ⟨Nat.le_of_ble_eq_true rfl, Nat.le_of_ble_eq_true rfl⟩) ⟨xbl0, fun U hU hW => ⟨rfl, trivial⟩⟩ rfl rfl hl.1 rfl (lv_room (Nat.le_of_ble_eq_true rfl)) dX1_withSat_19 ⟨Nat.le_of_ble_eq_true rfl, Nat.le_of_ble_eq_true rfl⟩)) (fun r3 hw => ?_)
    refine lv_istore (lv' := [(4, .int r3), (3, .int r2), (2, .int r1), (0, .int p0), (1, .int p1)]) hx hb dX1_withSat_22 hl (by decide) rfl (fun ls hl => ?_)
    refine lv_iload_n hx hb dX1_withSat_24 rfl (lv_at hl 3 rfl) ?_
    refine lv_iconst (v := 2) hx hb dX1_withSat_25 (by decide) ?_
    refine vp_callSi (va_Run.run (va_runS (As := [.int p0, .int 2]) (rest := []) ⟨hx, hb, hml, hown, hts⟩ (c_X2_bandOf l p0 2 _ hw) (gcS 2 hts m320 m343 m319 m30 rfl rfl (by decide +kernel) ⟨Nat.le_of_ble_eq_true rfl, Nat.le_of_ble_eq_true rfl⟩) ⟨xbl0, fun U hU hW => ⟨rfl, trivial⟩⟩ rfl rfl hl.1 rfl (lv_room (Nat.le_of_ble_eq_true rfl)) dX1_withSat_26 ⟨Nat.le_of_ble_eq_true rfl, Nat.le_of_ble_eq_true rfl⟩)) (fun r4 hw => ?_)
    refine lv_istore (lv' := [(5, .int r4), (4, .int r3), (3, .int r2), (2, .int r1), (0, .int p0), (1, .int p1)]) hx hb dX1_withSat_29 hl (by decide) rfl (fun ls hl => ?_)
    refine lv_iload_n hx hb dX1_withSat_31 rfl (lv_at hl 2 rfl) ?_
    refine lv_iload hx hb dX1_withSat_32 (lv_at hl 1 rfl) ?_
    refine lv_iload hx hb dX1_withSat_34 (lv_at hl 0 rfl) ?_
    refine vp_callSi (va_Run.run (va_runS (As := [.int r2, .int r3, .int r4]) (rest := []) ⟨hx, hb, hml, hown, hts⟩ (c_X1_leastOf l r2 r3 r4 _ hw) (gcS 3 hts m350 m348 m349 m32 rfl rfl (by decide +kernel) ⟨Nat.le_of_ble_eq_true rfl, Nat.le_of_ble_eq_true rfl⟩) ⟨xbl0, fun U hU hW => ⟨rfl, trivial⟩⟩ rfl rfl hl.1 rfl (lv_room (Nat.le_of_ble_eq_true rfl)) dX1_withSat_36 ⟨Nat.le_of_ble_eq_true rfl, Nat.le_of_ble_eq_true rfl⟩)) (fun r5 hw => ?_)
    refine lv_istore (lv' := [(6, .int r5), (5, .int r4), (4, .int r3), (3, .int r2), (2, .int r1), (0, .int p0), (1, .int p1)]) hx hb dX1_withSat_39 hl (by decide) rfl (fun ls hl => ?_)
    refine lv_iload_n hx hb dX1_withSat_41 rfl (lv_at hl 3 rfl) ?_
    refine lv_iload hx hb dX1_withSat_42 (lv_at hl 0 rfl) ?_
    refine lv_isub hx hb dX1_withSat_44 ?_
    refine lv_iload_n hx hb dX1_withSat_45 rfl (lv_at hl 6 rfl) ?_
    refine lv_imul hx hb dX1_withSat_46 ?_
    refine lv_iload_n hx hb dX1_withSat_47 rfl (lv_at hl 4 rfl) ?_
    refine lv_idiv hx hb dX1_withSat_48 (And.left hw) ?_
    replace hw := And.right hw
    refine lv_iload hx hb dX1_withSat_49 (lv_at hl 2 rfl) ?_
    refine lv_iload hx hb dX1_withSat_51 (lv_at hl 0 rfl) ?_
    refine lv_isub hx hb dX1_withSat_53 ?_
    refine lv_iload_n hx hb dX1_withSat_54 rfl (lv_at hl 6 rfl) ?_
    refine lv_imul hx hb dX1_withSat_55 ?_
    refine lv_iload_n hx hb dX1_withSat_56 rfl (lv_at hl 4 rfl) ?_
    refine lv_idiv hx hb dX1_withSat_57 (And.left hw) ?_
    replace hw := And.right hw
    refine lv_iload hx hb dX1_withSat_58 (lv_at hl 1 rfl) ?_
    refine lv_iload hx hb dX1_withSat_60 (lv_at hl 0 rfl) ?_
    refine lv_isub hx hb dX1_withSat_62 ?_
    refine lv_iload_n hx hb dX1_withSat_63 rfl (lv_at hl 6 rfl) ?_
    refine lv_imul hx hb dX1_withSat_64 ?_
    refine lv_iload_n hx hb dX1_withSat_65 rfl (lv_at hl 4 rfl) ?_
    refine lv_idiv hx hb dX1_withSat_66 (And.left hw) ?_
    replace hw := And.right hw
    refine vp_callSi (va_Run.run (va_runS (As := [.int (((r2 - r5) * p1) / r1), .int (((r3 - r5) * p1) / r1), .int (((r4 - r5) * p1) / r1)]) (rest := []) ⟨hx, hb, hml, hown, hts⟩ (c_X2_packed l (((r2 - r5) * p1) / r1) (((r3 - r5) * p1) / r1) (((r4 - r5) * p1) / r1) _ hw) (gcS 3 hts m328 m355 m327 m30 rfl rfl (by decide +kernel) ⟨Nat.le_of_ble_eq_true rfl, Nat.le_of_ble_eq_true rfl⟩) ⟨xbl0, fun U hU hW => ⟨rfl, trivial⟩⟩ rfl rfl hl.1 rfl (lv_room (Nat.le_of_ble_eq_true rfl)) dX1_withSat_67 ⟨Nat.le_of_ble_eq_true rfl, Nat.le_of_ble_eq_true rfl⟩)) (fun r6 hw => ?_)
    exact W.iret hx hb hr (fun t ht hW => ⟨_, rfl, hw, ht⟩) (fun q h => by cases h) dX1_withSat_70
  · replace hw := And.right hw c7
    refine lv_iconst (v := 0) hx hb dX1_withSat_9 (by decide) ?_
    exact W.iret hx hb hr (fun t ht hW => ⟨_, rfl, hw, ht⟩) (fun q h => by cases h) dX1_withSat_10
abbrev wX1_drawnIn : List Cond := Cond.code yX1_drawnIn cX1_drawnIn 5 (some .int) :: gG
def wp_X1_drawnIn_60 (P : Int32 → Prop) (x4 : Int32) : Prop :=
  wp_X2_within x4 (fun r1 => P r1)
def wp_X1_drawnIn_28 (P : Int32 → Prop) (x1 : Int32) (x3 : Int32) (x4 : Int32) : Prop :=
  ((x3 ≤ 255 → wp_X1_drawnIn_60 P x4) ∧
  (¬ x3 ≤ 255 → ((x3 ≤ x1 → wp_X1_drawnIn_60 P x4) ∧
  (¬ x3 ≤ x1 → wp_J9_floorDiv ((x4 - x1) * (255 - x1)) (x3 - x1) (fun r2 => ∀ v3 : Int32, v3 = (x1 + r2) → wp_X1_drawnIn_60 P v3)))))
def wp_X1_drawnIn (p0 : Int32) (p1 : Int32) (p2 : Int32) (p3 : Int32) (P : Int32 → Prop) : Prop :=
  ((0 ≤ p2 → wp_X1_drawnIn_28 P p1 p3 p0) ∧
  (¬ 0 ≤ p2 → ((p1 ≤ p2 → wp_X1_drawnIn_28 P p1 p3 p0) ∧
  (¬ p1 ≤ p2 → wp_J9_floorDiv ((p0 - p1) * p1) (p1 - p2) (fun r6 => ∀ v7 : Int32, v7 = (p1 + r6) → wp_X1_drawnIn_28 P p1 p3 v7)))))
abbrev rm_X1_drawnIn : Room := { frames := 2, cells := 0, slots := 0, locals := 41 }
set_option maxHeartbeats 4000000 in
set_option maxRecDepth 100000 in
theorem c_X1_drawnIn (l : Launch) (p0 : Int32) (p1 : Int32) (p2 : Int32) (p3 : Int32) (P : Int32 → Prop) (hw : wp_X1_drawnIn p0 p1 p2 p3 P) : Met l yX1_drawnIn wX1_drawnIn rm_X1_drawnIn (xP0 [.int p0, .int p1, .int p2, .int p3]) (vp_Si P) 0 0 (fun _ => False) := by
  refine Met.ofW (cc := cX1_drawnIn) (maxL := 5) (ret := (some .int)) (by decide) rfl ?_
  intro p e s m args below meth c s₁ B hml hv
  obtain ⟨hargs, -⟩ := hv
  have hx := B.exec
  have hb := B.bytes
  have hr := B.returns
  have hts := atoms_spec (ws := wX1_drawnIn) B.pre
  have hown : s.vm.findClass RX1 = some m.cls := findClass_of_methodNamed B.named
  have hlocks := B.notSynchronized
  have J60 : ∀ (x4 : Int32), wp_X1_drawnIn_60 P x4 → ∀ (ls : Array Slot), lv_has ls 5 [(4, .int x4)] → W p l e (headSpec wX1_drawnIn rm_X1_drawnIn).room s m args below meth c s.heap [] 0 0 (MQ below (vp_Si P) args s 0 0 (fun _ => False)) (F0 m 60 ls []) := by
    intro  x4 hw ls hl
    refine lv_iload hx hb dX1_drawnIn_60 (lv_at hl 0 rfl) ?_
    refine vp_callSi (va_Run.run (va_runS (As := [.int x4]) (rest := []) ⟨hx, hb, hml, hown, hts⟩ (c_X2_within l x4 _ hw) (gcS 1 hts m323 m372 m322 m30 rfl rfl (by decide +kernel) ⟨Nat.le_of_ble_eq_true rfl, Nat.le_of_ble_eq_true rfl⟩) ⟨xbl0, fun U hU hW => ⟨rfl, trivial⟩⟩ rfl rfl hl.1 rfl (lv_room (Nat.le_of_ble_eq_true rfl)) dX1_drawnIn_62 ⟨Nat.le_of_ble_eq_true rfl, Nat.le_of_ble_eq_true rfl⟩)) (fun r1 hw => ?_)
    exact W.iret hx hb hr (fun t ht hW => ⟨_, rfl, hw, ht⟩) (fun q h => by cases h) dX1_drawnIn_65
  have J28 : ∀ (x1 : Int32) (x3 : Int32) (x4 : Int32), wp_X1_drawnIn_28 P x1 x3 x4 → ∀ (ls : Array Slot), lv_has ls 5 [(1, .int x1), (3, .int x3), (4, .int x4)] → W p l e (headSpec wX1_drawnIn rm_X1_drawnIn).room s m args below meth c s.heap [] 0 0 (MQ below (vp_Si P) args s 0 0 (fun _ => False)) (F0 m 28 ls []) := by
    intro  x1 x3 x4 hw ls hl
    refine lv_iload_n hx hb dX1_drawnIn_28 rfl (lv_at hl 1 rfl) ?_
    refine lv_sipush (v := 255) hx hb dX1_drawnIn_29 (by decide) ?_
    refine lv_icmp_le (tgt := 60) hx hb dX1_drawnIn_32 (by decide) (fun c5 => ?_) (fun c5 => ?_)
    · replace hw := And.left hw c5
      exact J60 _ hw _ (lv_sub hl [2] rfl)
    · replace hw := And.right hw c5
      refine lv_iload_n hx hb dX1_drawnIn_35 rfl (lv_at hl 1 rfl) ?_
      refine lv_iload_n hx hb dX1_drawnIn_36 rfl (lv_at hl 0 rfl) ?_
      refine lv_icmp_le (tgt := 60) hx hb dX1_drawnIn_37 (by decide) (fun c4 => ?_) (fun c4 => ?_)
      · replace hw := And.left hw c4
        exact J60 _ hw _ (lv_sub hl [2] rfl)
      · replace hw := And.right hw c4
        refine lv_iload_n hx hb dX1_drawnIn_40 rfl (lv_at hl 0 rfl) ?_
        refine lv_iload hx hb dX1_drawnIn_41 (lv_at hl 2 rfl) ?_
        refine lv_iload_n hx hb dX1_drawnIn_43 rfl (lv_at hl 0 rfl) ?_
        refine lv_isub hx hb dX1_drawnIn_44 ?_
        refine lv_sipush (v := 255) hx hb dX1_drawnIn_45 (by decide) ?_
        refine lv_iload_n hx hb dX1_drawnIn_48 rfl (lv_at hl 0 rfl) ?_
        refine lv_isub hx hb dX1_drawnIn_49 ?_
        refine lv_imul hx hb dX1_drawnIn_50 ?_
        refine lv_iload_n hx hb dX1_drawnIn_51 rfl (lv_at hl 1 rfl) ?_
        refine lv_iload_n hx hb dX1_drawnIn_52 rfl (lv_at hl 0 rfl) ?_
        refine lv_isub hx hb dX1_drawnIn_53 ?_
        refine vp_callSi (va_Run.run (va_runS (As := [.int ((x4 - x1) * (255 - x1)), .int (x3 - x1)]) (rest := [.int x1]) ⟨hx, hb, hml, hown, hts⟩ (c_J9_floorDiv l ((x4 - x1) * (255 - x1)) (x3 - x1) _ hw) (gcS 2 hts m364 m371 m363 m22 rfl rfl (by decide +kernel) ⟨Nat.le_of_ble_eq_true rfl, Nat.le_of_ble_eq_true rfl⟩) ⟨xbl0, fun U hU hW => ⟨rfl, trivial⟩⟩ rfl rfl hl.1 rfl (lv_room (Nat.le_of_ble_eq_true rfl)) dX1_drawnIn_54 ⟨Nat.le_of_ble_eq_true rfl, Nat.le_of_ble_eq_true rfl⟩)) (fun r2 hw => ?_)
        refine lv_iadd hx hb dX1_drawnIn_57 ?_
        refine lv_topi (fun v3 e_v3 => ?_)
        replace hw := hw v3 e_v3
        refine lv_istore (lv' := [(4, .int v3), (1, .int x1), (3, .int x3)]) hx hb dX1_drawnIn_58 hl (by decide) rfl (fun ls hl => ?_)
        exact J60 _ hw _ (lv_sub hl [0] rfl)
  have hl := lv_entry ([.int p0, .int p1, .int p2, .int p3]) (n := 5) (Nat.le_of_ble_eq_true rfl)
  rw [show entryFrame m args 5 = entryFrame m (([.int p0, .int p1, .int p2, .int p3] : List Value).toArray) 5 from by rw [hargs], lg_entry_eq]
  generalize (lg_sl ([.int p0, .int p1, .int p2, .int p3]) ++ List.replicate (5 - (lg_sl ([.int p0, .int p1, .int p2, .int p3])).length) Slot.unset).toArray = ls at hl ⊢
  have hl : lv_has ls 5 [(0, .int p0), (1, .int p1), (2, .int p2), (3, .int p3)] := hl
  refine lv_iload_n hx hb dX1_drawnIn_0 rfl (lv_at hl 0 rfl) ?_
  refine lv_istore (lv' := [(4, .int p0), (0, .int p0), (1, .int p1), (2, .int p2), (3, .int p3)]) hx hb dX1_drawnIn_1 hl (by decide) rfl (fun ls hl => ?_)
  refine lv_iload_n hx hb dX1_drawnIn_3 rfl (lv_at hl 3 rfl) ?_
  refine lv_if_ge (tgt := 28) hx hb dX1_drawnIn_4 (by decide) (fun c9 => ?_) (fun c9 => ?_)
  · replace hw := And.left hw c9
    exact J28 _ _ _ hw _ (lv_sub hl [2, 4, 0] rfl)
  · replace hw := And.right hw c9
    refine lv_iload_n hx hb dX1_drawnIn_7 rfl (lv_at hl 3 rfl) ?_
    refine lv_iload_n hx hb dX1_drawnIn_8 rfl (lv_at hl 2 rfl) ?_
    refine lv_icmp_ge (tgt := 28) hx hb dX1_drawnIn_9 (by decide) (fun c8 => ?_) (fun c8 => ?_)
    · replace hw := And.left hw c8
      exact J28 _ _ _ hw _ (lv_sub hl [2, 4, 0] rfl)
    · replace hw := And.right hw c8
      refine lv_iload_n hx hb dX1_drawnIn_12 rfl (lv_at hl 2 rfl) ?_
      refine lv_iload hx hb dX1_drawnIn_13 (lv_at hl 0 rfl) ?_
      refine lv_iload_n hx hb dX1_drawnIn_15 rfl (lv_at hl 2 rfl) ?_
      refine lv_isub hx hb dX1_drawnIn_16 ?_
      refine lv_iload_n hx hb dX1_drawnIn_17 rfl (lv_at hl 2 rfl) ?_
      refine lv_imul hx hb dX1_drawnIn_18 ?_
      refine lv_iload_n hx hb dX1_drawnIn_19 rfl (lv_at hl 2 rfl) ?_
      refine lv_iload_n hx hb dX1_drawnIn_20 rfl (lv_at hl 3 rfl) ?_
      refine lv_isub hx hb dX1_drawnIn_21 ?_
      refine vp_callSi (va_Run.run (va_runS (As := [.int ((p0 - p1) * p1), .int (p1 - p2)]) (rest := [.int p1]) ⟨hx, hb, hml, hown, hts⟩ (c_J9_floorDiv l ((p0 - p1) * p1) (p1 - p2) _ hw) (gcS 2 hts m364 m371 m363 m22 rfl rfl (by decide +kernel) ⟨Nat.le_of_ble_eq_true rfl, Nat.le_of_ble_eq_true rfl⟩) ⟨xbl0, fun U hU hW => ⟨rfl, trivial⟩⟩ rfl rfl hl.1 rfl (lv_room (Nat.le_of_ble_eq_true rfl)) dX1_drawnIn_22 ⟨Nat.le_of_ble_eq_true rfl, Nat.le_of_ble_eq_true rfl⟩)) (fun r6 hw => ?_)
      refine lv_iadd hx hb dX1_drawnIn_25 ?_
      refine lv_topi (fun v7 e_v7 => ?_)
      replace hw := hw v7 e_v7
      refine lv_istore (lv' := [(4, .int v7), (0, .int p0), (1, .int p1), (2, .int p2), (3, .int p3)]) hx hb dX1_drawnIn_26 hl (by decide) rfl (fun ls hl => ?_)
      exact J28 _ _ _ hw _ (lv_sub hl [2, 4, 0] rfl)
abbrev wX1_withLum : List Cond := Cond.code yX1_withLum cX1_withLum 9 (some .int) :: gG
def wp_X1_withLum (p0 : Int32) (p1 : Int32) (P : Int32 → Prop) : Prop :=
  wp_X1_lumOf p0 (fun r1 => ∀ v2 : Int32, v2 = (p1 - r1) → wp_X2_bandOf p0 0 (fun r3 => ∀ v4 : Int32, v4 = (r3 + v2) → wp_X2_bandOf p0 1 (fun r5 => ∀ v6 : Int32, v6 = (r5 + v2) → wp_X2_bandOf p0 2 (fun r7 => ∀ v8 : Int32, v8 = (r7 + v2) → wp_X2_lum v4 v6 v8 (fun r9 => wp_X1_leastOf v4 v6 v8 (fun r10 => wp_X1_mostOf v4 v6 v8 (fun r11 => wp_X1_drawnIn v4 r9 r10 r11 (fun r12 => wp_X1_drawnIn v6 r9 r10 r11 (fun r13 => wp_X1_drawnIn v8 r9 r10 r11 (fun r14 => wp_X2_packed r12 r13 r14 (fun r15 => P r15)))))))))))
abbrev rm_X1_withLum : Room := { frames := 3, cells := 0, slots := 0, locals := 65 }
set_option maxHeartbeats 4000000 in
set_option maxRecDepth 100000 in
theorem c_X1_withLum (l : Launch) (p0 : Int32) (p1 : Int32) (P : Int32 → Prop) (hw : wp_X1_withLum p0 p1 P) : Met l yX1_withLum wX1_withLum rm_X1_withLum (xP0 [.int p0, .int p1]) (vp_Si P) 0 0 (fun _ => False) := by
  refine Met.ofW (cc := cX1_withLum) (maxL := 9) (ret := (some .int)) (by decide) rfl ?_
  intro p e s m args below meth c s₁ B hml hv
  obtain ⟨hargs, -⟩ := hv
  have hx := B.exec
  have hb := B.bytes
  have hr := B.returns
  have hts := atoms_spec (ws := wX1_withLum) B.pre
  have hown : s.vm.findClass RX1 = some m.cls := findClass_of_methodNamed B.named
  have hlocks := B.notSynchronized
  have hl := lv_entry ([.int p0, .int p1]) (n := 9) (Nat.le_of_ble_eq_true rfl)
  rw [show entryFrame m args 9 = entryFrame m (([.int p0, .int p1] : List Value).toArray) 9 from by rw [hargs], lg_entry_eq]
  generalize (lg_sl ([.int p0, .int p1]) ++ List.replicate (9 - (lg_sl ([.int p0, .int p1])).length) Slot.unset).toArray = ls at hl ⊢
  have hl : lv_has ls 9 [(0, .int p0), (1, .int p1)] := hl
  refine lv_iload_n hx hb dX1_withLum_0 rfl (lv_at hl 1 rfl) ?_
  refine lv_iload_n hx hb dX1_withLum_1 rfl (lv_at hl 0 rfl) ?_
  refine vp_callSi (va_Run.run (va_runS (As := [.int p0]) (rest := [.int p1]) ⟨hx, hb, hml, hown, hts⟩ (c_X1_lumOf l p0 _ hw) (gcS 1 hts m358 m356 m357 m32 rfl rfl (by decide +kernel) ⟨Nat.le_of_ble_eq_true rfl, Nat.le_of_ble_eq_true rfl⟩) ⟨xbl0, fun U hU hW => ⟨rfl, trivial⟩⟩ rfl rfl hl.1 rfl (lv_room (Nat.le_of_ble_eq_true rfl)) dX1_withLum_2 ⟨Nat.le_of_ble_eq_true rfl, Nat.le_of_ble_eq_true rfl⟩)) (fun r1 hw => ?_)
  refine lv_isub hx hb dX1_withLum_5 ?_
  refine lv_topi (fun v2 e_v2 => ?_)
  replace hw := hw v2 e_v2
  refine lv_istore_n (lv' := [(2, .int v2), (0, .int p0), (1, .int p1)]) hx hb dX1_withLum_6 rfl hl (by decide) rfl (fun ls hl => ?_)
  refine lv_iload_n hx hb dX1_withLum_7 rfl (lv_at hl 1 rfl) ?_
  refine lv_iconst (v := 0) hx hb dX1_withLum_8 (by decide) ?_
  refine vp_callSi (va_Run.run (va_runS (As := [.int p0, .int 0]) (rest := []) ⟨hx, hb, hml, hown, hts⟩ (c_X2_bandOf l p0 0 _ hw) (gcS 2 hts m320 m343 m319 m30 rfl rfl (by decide +kernel) ⟨Nat.le_of_ble_eq_true rfl, Nat.le_of_ble_eq_true rfl⟩) ⟨xbl0, fun U hU hW => ⟨rfl, trivial⟩⟩ rfl rfl hl.1 rfl (lv_room (Nat.le_of_ble_eq_true rfl)) dX1_withLum_9 ⟨Nat.le_of_ble_eq_true rfl, Nat.le_of_ble_eq_true rfl⟩)) (fun r3 hw => ?_)
  refine lv_iload_n hx hb dX1_withLum_12 rfl (lv_at hl 0 rfl) ?_
  refine lv_iadd hx hb dX1_withLum_13 ?_
  refine lv_topi (fun v4 e_v4 => ?_)
  replace hw := hw v4 e_v4
  refine lv_istore_n (lv' := [(3, .int v4), (2, .int v2), (0, .int p0), (1, .int p1)]) hx hb dX1_withLum_14 rfl hl (by decide) rfl (fun ls hl => ?_)
  refine lv_iload_n hx hb dX1_withLum_15 rfl (lv_at hl 2 rfl) ?_
  refine lv_iconst (v := 1) hx hb dX1_withLum_16 (by decide) ?_
  refine vp_callSi (va_Run.run (va_runS (As := [.int p0, .int 1]) (rest := []) ⟨hx, hb, hml, hown, hts⟩ (c_X2_bandOf l p0 1 _ hw) (gcS 2 hts m320 m343 m319 m30 rfl rfl (by decide +kernel) ⟨Nat.le_of_ble_eq_true rfl, Nat.le_of_ble_eq_true rfl⟩) ⟨xbl0, fun U hU hW => ⟨rfl, trivial⟩⟩ rfl rfl hl.1 rfl (lv_room (Nat.le_of_ble_eq_true rfl)) dX1_withLum_17 ⟨Nat.le_of_ble_eq_true rfl, Nat.le_of_ble_eq_true rfl⟩)) (fun r5 hw => ?_)
  refine lv_iload_n hx hb dX1_withLum_20 rfl (lv_at hl 1 rfl) ?_
  refine lv_iadd hx hb dX1_withLum_21 ?_
  refine lv_topi (fun v6 e_v6 => ?_)
  replace hw := hw v6 e_v6
  refine lv_istore (lv' := [(4, .int v6), (3, .int v4), (2, .int v2), (0, .int p0), (1, .int p1)]) hx hb dX1_withLum_22 hl (by decide) rfl (fun ls hl => ?_)
  refine lv_iload_n hx hb dX1_withLum_24 rfl (lv_at hl 3 rfl) ?_
  refine lv_iconst (v := 2) hx hb dX1_withLum_25 (by decide) ?_
  refine vp_callSi (va_Run.run (va_runS (As := [.int p0, .int 2]) (rest := []) ⟨hx, hb, hml, hown, hts⟩ (c_X2_bandOf l p0 2 _ hw) (gcS 2 hts m320 m343 m319 m30 rfl rfl (by decide +kernel) ⟨Nat.le_of_ble_eq_true rfl, Nat.le_of_ble_eq_true rfl⟩) ⟨xbl0, fun U hU hW => ⟨rfl, trivial⟩⟩ rfl rfl hl.1 rfl (lv_room (Nat.le_of_ble_eq_true rfl)) dX1_withLum_26 ⟨Nat.le_of_ble_eq_true rfl, Nat.le_of_ble_eq_true rfl⟩)) (fun r7 hw => ?_)
  refine lv_iload_n hx hb dX1_withLum_29 rfl (lv_at hl 2 rfl) ?_
  refine lv_iadd hx hb dX1_withLum_30 ?_
  refine lv_topi (fun v8 e_v8 => ?_)
  replace hw := hw v8 e_v8
  refine lv_istore (lv' := [(5, .int v8), (4, .int v6), (3, .int v4), (2, .int v2), (0, .int p0), (1, .int p1)]) hx hb dX1_withLum_31 hl (by decide) rfl (fun ls hl => ?_)
  refine lv_iload_n hx hb dX1_withLum_33 rfl (lv_at hl 2 rfl) ?_
  refine lv_iload hx hb dX1_withLum_34 (lv_at hl 1 rfl) ?_
  refine lv_iload hx hb dX1_withLum_36 (lv_at hl 0 rfl) ?_
  refine vp_callSi (va_Run.run (va_runS (As := [.int v4, .int v6, .int v8]) (rest := []) ⟨hx, hb, hml, hown, hts⟩ (c_X2_lum l v4 v6 v8 _ hw) (gcS 3 hts m361 m359 m360 m30 rfl rfl (by decide +kernel) ⟨Nat.le_of_ble_eq_true rfl, Nat.le_of_ble_eq_true rfl⟩) ⟨xbl0, fun U hU hW => ⟨rfl, trivial⟩⟩ rfl rfl hl.1 rfl (lv_room (Nat.le_of_ble_eq_true rfl)) dX1_withLum_38 ⟨Nat.le_of_ble_eq_true rfl, Nat.le_of_ble_eq_true rfl⟩)) (fun r9 hw => ?_)
  refine lv_istore (lv' := [(6, .int r9), (5, .int v8), (4, .int v6), (3, .int v4), (2, .int v2), (0, .int p0), (1, .int p1)]) hx hb dX1_withLum_41 hl (by decide) rfl (fun ls hl => ?_)
  refine lv_iload_n hx hb dX1_withLum_43 rfl (lv_at hl 3 rfl) ?_
  refine lv_iload hx hb dX1_withLum_44 (lv_at hl 2 rfl) ?_
  refine lv_iload hx hb dX1_withLum_46 (lv_at hl 1 rfl) ?_
  refine vp_callSi (va_Run.run (va_runS (As := [.int v4, .int v6, .int v8]) (rest := []) ⟨hx, hb, hml, hown, hts⟩ (c_X1_leastOf l v4 v6 v8 _ hw) (gcS 3 hts m350 m348 m349 m32 rfl rfl (by decide +kernel) ⟨Nat.le_of_ble_eq_true rfl, Nat.le_of_ble_eq_true rfl⟩) ⟨xbl0, fun U hU hW => ⟨rfl, trivial⟩⟩ rfl rfl hl.1 rfl (lv_room (Nat.le_of_ble_eq_true rfl)) dX1_withLum_48 ⟨Nat.le_of_ble_eq_true rfl, Nat.le_of_ble_eq_true rfl⟩)) (fun r10 hw => ?_)
  refine lv_istore (lv' := [(7, .int r10), (6, .int r9), (5, .int v8), (4, .int v6), (3, .int v4), (2, .int v2), (0, .int p0), (1, .int p1)]) hx hb dX1_withLum_51 hl (by decide) rfl (fun ls hl => ?_)
  refine lv_iload_n hx hb dX1_withLum_53 rfl (lv_at hl 4 rfl) ?_
  refine lv_iload hx hb dX1_withLum_54 (lv_at hl 3 rfl) ?_
  refine lv_iload hx hb dX1_withLum_56 (lv_at hl 2 rfl) ?_
  refine vp_callSi (va_Run.run (va_runS (As := [.int v4, .int v6, .int v8]) (rest := []) ⟨hx, hb, hml, hown, hts⟩ (c_X1_mostOf l v4 v6 v8 _ hw) (gcS 3 hts m346 m344 m345 m32 rfl rfl (by decide +kernel) ⟨Nat.le_of_ble_eq_true rfl, Nat.le_of_ble_eq_true rfl⟩) ⟨xbl0, fun U hU hW => ⟨rfl, trivial⟩⟩ rfl rfl hl.1 rfl (lv_room (Nat.le_of_ble_eq_true rfl)) dX1_withLum_58 ⟨Nat.le_of_ble_eq_true rfl, Nat.le_of_ble_eq_true rfl⟩)) (fun r11 hw => ?_)
  refine lv_istore (lv' := [(8, .int r11), (7, .int r10), (6, .int r9), (5, .int v8), (4, .int v6), (3, .int v4), (2, .int v2), (0, .int p0), (1, .int p1)]) hx hb dX1_withLum_61 hl (by decide) rfl (fun ls hl => ?_)
  refine lv_iload_n hx hb dX1_withLum_63 rfl (lv_at hl 5 rfl) ?_
  refine lv_iload hx hb dX1_withLum_64 (lv_at hl 2 rfl) ?_
  refine lv_iload hx hb dX1_withLum_66 (lv_at hl 1 rfl) ?_
  refine lv_iload hx hb dX1_withLum_68 (lv_at hl 0 rfl) ?_
  refine vp_callSi (va_Run.run (va_runS (As := [.int v4, .int r9, .int r10, .int r11]) (rest := []) ⟨hx, hb, hml, hown, hts⟩ (c_X1_drawnIn l v4 r9 r10 r11 _ hw) (gcS 4 hts m370 m368 m369 m32 rfl rfl (by decide +kernel) ⟨Nat.le_of_ble_eq_true rfl, Nat.le_of_ble_eq_true rfl⟩) ⟨xbl0, fun U hU hW => ⟨rfl, trivial⟩⟩ rfl rfl hl.1 rfl (lv_room (Nat.le_of_ble_eq_true rfl)) dX1_withLum_70 ⟨Nat.le_of_ble_eq_true rfl, Nat.le_of_ble_eq_true rfl⟩)) (fun r12 hw => ?_)
  refine lv_iload hx hb dX1_withLum_73 (lv_at hl 4 rfl) ?_
  refine lv_iload hx hb dX1_withLum_75 (lv_at hl 2 rfl) ?_
  refine lv_iload hx hb dX1_withLum_77 (lv_at hl 1 rfl) ?_
  refine lv_iload hx hb dX1_withLum_79 (lv_at hl 0 rfl) ?_
  refine vp_callSi (va_Run.run (va_runS (As := [.int v6, .int r9, .int r10, .int r11]) (rest := [.int r12]) ⟨hx, hb, hml, hown, hts⟩ (c_X1_drawnIn l v6 r9 r10 r11 _ hw) (gcS 4 hts m370 m368 m369 m32 rfl rfl (by decide +kernel) ⟨Nat.le_of_ble_eq_true rfl, Nat.le_of_ble_eq_true rfl⟩) ⟨xbl0, fun U hU hW => ⟨rfl, trivial⟩⟩ rfl rfl hl.1 rfl (lv_room (Nat.le_of_ble_eq_true rfl)) dX1_withLum_81 ⟨Nat.le_of_ble_eq_true rfl, Nat.le_of_ble_eq_true rfl⟩)) (fun r13 hw => ?_)
  refine lv_iload hx hb dX1_withLum_84 (lv_at hl 3 rfl) ?_
  refine lv_iload hx hb dX1_withLum_86 (lv_at hl 2 rfl) ?_
  refine lv_iload hx hb dX1_withLum_88 (lv_at hl 1 rfl) ?_
  refine lv_iload hx hb dX1_withLum_90 (lv_at hl 0 rfl) ?_
  refine vp_callSi (va_Run.run (va_runS (As := [.int v8, .int r9, .int r10, .int r11]) (rest := [.int r13, .int r12]) ⟨hx, hb, hml, hown, hts⟩ (c_X1_drawnIn l v8 r9 r10 r11 _ hw) (gcS 4 hts m370 m368 m369 m32 rfl rfl (by decide +kernel) ⟨Nat.le_of_ble_eq_true rfl, Nat.le_of_ble_eq_true rfl⟩) ⟨xbl0, fun U hU hW => ⟨rfl, trivial⟩⟩ rfl rfl hl.1 rfl (lv_room (Nat.le_of_ble_eq_true rfl)) dX1_withLum_92 ⟨Nat.le_of_ble_eq_true rfl, Nat.le_of_ble_eq_true rfl⟩)) (fun r14 hw => ?_)
  refine vp_callSi (va_Run.run (va_runS (As := [.int r12, .int r13, .int r14]) (rest := []) ⟨hx, hb, hml, hown, hts⟩ (c_X2_packed l r12 r13 r14 _ hw) (gcS 3 hts m328 m355 m327 m30 rfl rfl (by decide +kernel) ⟨Nat.le_of_ble_eq_true rfl, Nat.le_of_ble_eq_true rfl⟩) ⟨xbl0, fun U hU hW => ⟨rfl, trivial⟩⟩ rfl rfl hl.1 rfl (lv_room (Nat.le_of_ble_eq_true rfl)) dX1_withLum_95 ⟨Nat.le_of_ble_eq_true rfl, Nat.le_of_ble_eq_true rfl⟩)) (fun r15 hw => ?_)
  exact W.iret hx hb hr (fun t ht hW => ⟨_, rfl, hw, ht⟩) (fun q h => by cases h) dX1_withLum_98
abbrev wX1_ofBytes : List Cond := Cond.code yX1_ofBytes cX1_ofBytes 3 (some .int) :: gG
def wp_X1_ofBytes (p0 : Int32) (p1 : Int32) (p2 : Int32) (P : Int32 → Prop) : Prop :=
  ((p0 = 1 → wp_X2_mul p1 p2 (fun r2 => P r2)) ∧
  (¬ p0 = 1 → ((p0 = 2 → wp_X2_union p1 p2 (fun r4 => P r4)) ∧
  (¬ p0 = 2 → ((p0 = 3 → wp_X1_hardLight p2 p1 (fun r6 => P r6)) ∧
  (¬ p0 = 3 → ((p0 = 4 → P (if p2 < p1 then p2 else p1)) ∧
  (¬ p0 = 4 → ((p0 = 5 → P (if p1 < p2 then p2 else p1)) ∧
  (¬ p0 = 5 → ((p0 = 6 → wp_X1_dodge p1 p2 (fun r10 => P r10)) ∧
  (¬ p0 = 6 → ((p0 = 7 → wp_X1_burn p1 p2 (fun r12 => P r12)) ∧
  (¬ p0 = 7 → ((p0 = 8 → wp_X1_hardLight p1 p2 (fun r14 => P r14)) ∧
  (¬ p0 = 8 → ((p0 = 9 → wp_X1_softLight p1 p2 (fun r16 => P r16)) ∧
  (¬ p0 = 9 → ((p0 = 10 → P ((if p1 < p2 then p2 else p1) - (if p2 < p1 then p2 else p1))) ∧
  (¬ p0 = 10 → ((p0 = 11 → wp_X2_mul p1 p2 (fun r19 => P (if 0 < ((p1 + p2) - (2 * r19)) then ((p1 + p2) - (2 * r19)) else 0))) ∧
  (¬ p0 = 11 → P p2))))))))))))))))))))))
abbrev rm_X1_ofBytes : Room := { frames := 3, cells := 0, slots := 0, locals := 63 }
set_option maxHeartbeats 4000000 in
set_option maxRecDepth 100000 in
theorem c_X1_ofBytes (l : Launch) (p0 : Int32) (p1 : Int32) (p2 : Int32) (P : Int32 → Prop) (hw : wp_X1_ofBytes p0 p1 p2 P) : Met l yX1_ofBytes wX1_ofBytes rm_X1_ofBytes (xP0 [.int p0, .int p1, .int p2]) (vp_Si P) 0 0 (fun _ => False) := by
  refine Met.ofW (cc := cX1_ofBytes) (maxL := 3) (ret := (some .int)) (by decide) rfl ?_
  intro p e s m args below meth c s₁ B hml hv
  obtain ⟨hargs, -⟩ := hv
  have hx := B.exec
  have hb := B.bytes
  have hr := B.returns
  have hts := atoms_spec (ws := wX1_ofBytes) B.pre
  have hown : s.vm.findClass RX1 = some m.cls := findClass_of_methodNamed B.named
  have hlocks := B.notSynchronized
  have hl := lv_entry ([.int p0, .int p1, .int p2]) (n := 3) (Nat.le_of_ble_eq_true rfl)
  rw [show entryFrame m args 3 = entryFrame m (([.int p0, .int p1, .int p2] : List Value).toArray) 3 from by rw [hargs], lg_entry_eq]
  generalize (lg_sl ([.int p0, .int p1, .int p2]) ++ List.replicate (3 - (lg_sl ([.int p0, .int p1, .int p2])).length) Slot.unset).toArray = ls at hl ⊢
  have hl : lv_has ls 3 [(0, .int p0), (1, .int p1), (2, .int p2)] := hl
  refine lv_iload_n hx hb dX1_ofBytes_0 rfl (lv_at hl 0 rfl) ?_
  by_cases c1 : p0 = 1
  · replace hw := And.left hw c1
    refine lv_tableIn (tgt := 60) hx hb dX1_ofBytes_1 (by rw [c1]; decide) (by rw [c1]; decide) (by rw [c1]; rfl) (by decide) ?_
    refine lv_iload_n hx hb dX1_ofBytes_60 rfl (lv_at hl 1 rfl) ?_
    refine lv_iload_n hx hb dX1_ofBytes_61 rfl (lv_at hl 2 rfl) ?_
    refine vp_callSi (va_Run.run (va_runS (As := [.int p1, .int p2]) (rest := []) ⟨hx, hb, hml, hown, hts⟩ (c_X2_mul l p1 p2 _ hw) (gcS 2 hts m260 m376 m259 m30 rfl rfl (by decide +kernel) ⟨Nat.le_of_ble_eq_true rfl, Nat.le_of_ble_eq_true rfl⟩) ⟨xbl0, fun U hU hW => ⟨rfl, trivial⟩⟩ rfl rfl hl.1 rfl (lv_room (Nat.le_of_ble_eq_true rfl)) dX1_ofBytes_62 ⟨Nat.le_of_ble_eq_true rfl, Nat.le_of_ble_eq_true rfl⟩)) (fun r2 hw => ?_)
    exact W.iret hx hb hr (fun t ht hW => ⟨_, rfl, hw, ht⟩) (fun q h => by cases h) dX1_ofBytes_65
  replace hw := And.right hw c1
  by_cases c3 : p0 = 2
  · replace hw := And.left hw c3
    refine lv_tableIn (tgt := 66) hx hb dX1_ofBytes_1 (by rw [c3]; decide) (by rw [c3]; decide) (by rw [c3]; rfl) (by decide) ?_
    refine lv_iload_n hx hb dX1_ofBytes_66 rfl (lv_at hl 1 rfl) ?_
    refine lv_iload_n hx hb dX1_ofBytes_67 rfl (lv_at hl 2 rfl) ?_
    refine vp_callSi (va_Run.run (va_runS (As := [.int p1, .int p2]) (rest := []) ⟨hx, hb, hml, hown, hts⟩ (c_X2_union l p1 p2 _ hw) (gcS 2 hts m257 m377 m256 m30 rfl rfl (by decide +kernel) ⟨Nat.le_of_ble_eq_true rfl, Nat.le_of_ble_eq_true rfl⟩) ⟨xbl0, fun U hU hW => ⟨rfl, trivial⟩⟩ rfl rfl hl.1 rfl (lv_room (Nat.le_of_ble_eq_true rfl)) dX1_ofBytes_68 ⟨Nat.le_of_ble_eq_true rfl, Nat.le_of_ble_eq_true rfl⟩)) (fun r4 hw => ?_)
    exact W.iret hx hb hr (fun t ht hW => ⟨_, rfl, hw, ht⟩) (fun q h => by cases h) dX1_ofBytes_71
  replace hw := And.right hw c3
  by_cases c5 : p0 = 3
  · replace hw := And.left hw c5
    refine lv_tableIn (tgt := 72) hx hb dX1_ofBytes_1 (by rw [c5]; decide) (by rw [c5]; decide) (by rw [c5]; rfl) (by decide) ?_
    refine lv_iload_n hx hb dX1_ofBytes_72 rfl (lv_at hl 2 rfl) ?_
    refine lv_iload_n hx hb dX1_ofBytes_73 rfl (lv_at hl 1 rfl) ?_
    refine vp_callSi (va_Run.run (va_runS (As := [.int p2, .int p1]) (rest := []) ⟨hx, hb, hml, hown, hts⟩ (c_X1_hardLight l p2 p1 _ hw) (gcS 2 hts m380 m378 m379 m32 rfl rfl (by decide +kernel) ⟨Nat.le_of_ble_eq_true rfl, Nat.le_of_ble_eq_true rfl⟩) ⟨xbl0, fun U hU hW => ⟨rfl, trivial⟩⟩ rfl rfl hl.1 rfl (lv_room (Nat.le_of_ble_eq_true rfl)) dX1_ofBytes_74 ⟨Nat.le_of_ble_eq_true rfl, Nat.le_of_ble_eq_true rfl⟩)) (fun r6 hw => ?_)
    exact W.iret hx hb hr (fun t ht hW => ⟨_, rfl, hw, ht⟩) (fun q h => by cases h) dX1_ofBytes_77
  replace hw := And.right hw c5
  by_cases c7 : p0 = 4
  · replace hw := And.left hw c7
    refine lv_tableIn (tgt := 78) hx hb dX1_ofBytes_1 (by rw [c7]; decide) (by rw [c7]; decide) (by rw [c7]; rfl) (by decide) ?_
    refine lv_iload_n hx hb dX1_ofBytes_78 rfl (lv_at hl 1 rfl) ?_
    refine lv_iload_n hx hb dX1_ofBytes_79 rfl (lv_at hl 2 rfl) ?_
    refine va_mmin hx hb (hml.trans hl.1.symm) hown (hts _ (xm m351)) (hts _ (xm m44)) (hts _ (xm m22)) (hts _ (xm m45)) (Nat.le_of_ble_eq_true rfl) (Nat.le_of_ble_eq_true rfl) (Nat.le_of_ble_eq_true rfl) (Nat.le_of_ble_eq_true rfl) dX1_ofBytes_80 ?_
    exact W.iret hx hb hr (fun t ht hW => ⟨_, rfl, hw, ht⟩) (fun q h => by cases h) dX1_ofBytes_83
  replace hw := And.right hw c7
  by_cases c8 : p0 = 5
  · replace hw := And.left hw c8
    refine lv_tableIn (tgt := 84) hx hb dX1_ofBytes_1 (by rw [c8]; decide) (by rw [c8]; decide) (by rw [c8]; rfl) (by decide) ?_
    refine lv_iload_n hx hb dX1_ofBytes_84 rfl (lv_at hl 1 rfl) ?_
    refine lv_iload_n hx hb dX1_ofBytes_85 rfl (lv_at hl 2 rfl) ?_
    refine va_mmax hx hb (hml.trans hl.1.symm) hown (hts _ (xm m347)) (hts _ (xm m47)) (hts _ (xm m22)) (hts _ (xm m48)) (Nat.le_of_ble_eq_true rfl) (Nat.le_of_ble_eq_true rfl) (Nat.le_of_ble_eq_true rfl) (Nat.le_of_ble_eq_true rfl) dX1_ofBytes_86 ?_
    exact W.iret hx hb hr (fun t ht hW => ⟨_, rfl, hw, ht⟩) (fun q h => by cases h) dX1_ofBytes_89
  replace hw := And.right hw c8
  by_cases c9 : p0 = 6
  · replace hw := And.left hw c9
    refine lv_tableIn (tgt := 90) hx hb dX1_ofBytes_1 (by rw [c9]; decide) (by rw [c9]; decide) (by rw [c9]; rfl) (by decide) ?_
    refine lv_iload_n hx hb dX1_ofBytes_90 rfl (lv_at hl 1 rfl) ?_
    refine lv_iload_n hx hb dX1_ofBytes_91 rfl (lv_at hl 2 rfl) ?_
    refine vp_callSi (va_Run.run (va_runS (As := [.int p1, .int p2]) (rest := []) ⟨hx, hb, hml, hown, hts⟩ (c_X1_dodge l p1 p2 _ hw) (gcS 2 hts m383 m381 m382 m32 rfl rfl (by decide +kernel) ⟨Nat.le_of_ble_eq_true rfl, Nat.le_of_ble_eq_true rfl⟩) ⟨xbl0, fun U hU hW => ⟨rfl, trivial⟩⟩ rfl rfl hl.1 rfl (lv_room (Nat.le_of_ble_eq_true rfl)) dX1_ofBytes_92 ⟨Nat.le_of_ble_eq_true rfl, Nat.le_of_ble_eq_true rfl⟩)) (fun r10 hw => ?_)
    exact W.iret hx hb hr (fun t ht hW => ⟨_, rfl, hw, ht⟩) (fun q h => by cases h) dX1_ofBytes_95
  replace hw := And.right hw c9
  by_cases c11 : p0 = 7
  · replace hw := And.left hw c11
    refine lv_tableIn (tgt := 96) hx hb dX1_ofBytes_1 (by rw [c11]; decide) (by rw [c11]; decide) (by rw [c11]; rfl) (by decide) ?_
    refine lv_iload_n hx hb dX1_ofBytes_96 rfl (lv_at hl 1 rfl) ?_
    refine lv_iload_n hx hb dX1_ofBytes_97 rfl (lv_at hl 2 rfl) ?_
    refine vp_callSi (va_Run.run (va_runS (As := [.int p1, .int p2]) (rest := []) ⟨hx, hb, hml, hown, hts⟩ (c_X1_burn l p1 p2 _ hw) (gcS 2 hts m386 m384 m385 m32 rfl rfl (by decide +kernel) ⟨Nat.le_of_ble_eq_true rfl, Nat.le_of_ble_eq_true rfl⟩) ⟨xbl0, fun U hU hW => ⟨rfl, trivial⟩⟩ rfl rfl hl.1 rfl (lv_room (Nat.le_of_ble_eq_true rfl)) dX1_ofBytes_98 ⟨Nat.le_of_ble_eq_true rfl, Nat.le_of_ble_eq_true rfl⟩)) (fun r12 hw => ?_)
    exact W.iret hx hb hr (fun t ht hW => ⟨_, rfl, hw, ht⟩) (fun q h => by cases h) dX1_ofBytes_101
  replace hw := And.right hw c11
  by_cases c13 : p0 = 8
  · replace hw := And.left hw c13
    refine lv_tableIn (tgt := 102) hx hb dX1_ofBytes_1 (by rw [c13]; decide) (by rw [c13]; decide) (by rw [c13]; rfl) (by decide) ?_
    refine lv_iload_n hx hb dX1_ofBytes_102 rfl (lv_at hl 1 rfl) ?_
    refine lv_iload_n hx hb dX1_ofBytes_103 rfl (lv_at hl 2 rfl) ?_
    refine vp_callSi (va_Run.run (va_runS (As := [.int p1, .int p2]) (rest := []) ⟨hx, hb, hml, hown, hts⟩ (c_X1_hardLight l p1 p2 _ hw) (gcS 2 hts m380 m378 m379 m32 rfl rfl (by decide +kernel) ⟨Nat.le_of_ble_eq_true rfl, Nat.le_of_ble_eq_true rfl⟩) ⟨xbl0, fun U hU hW => ⟨rfl, trivial⟩⟩ rfl rfl hl.1 rfl (lv_room (Nat.le_of_ble_eq_true rfl)) dX1_ofBytes_104 ⟨Nat.le_of_ble_eq_true rfl, Nat.le_of_ble_eq_true rfl⟩)) (fun r14 hw => ?_)
    exact W.iret hx hb hr (fun t ht hW => ⟨_, rfl, hw, ht⟩) (fun q h => by cases h) dX1_ofBytes_107
  replace hw := And.right hw c13
  by_cases c15 : p0 = 9
  · replace hw := And.left hw c15
    refine lv_tableIn (tgt := 108) hx hb dX1_ofBytes_1 (by rw [c15]; decide) (by rw [c15]; decide) (by rw [c15]; rfl) (by decide) ?_
    refine lv_iload_n hx hb dX1_ofBytes_108 rfl (lv_at hl 1 rfl) ?_
    refine lv_iload_n hx hb dX1_ofBytes_109 rfl (lv_at hl 2 rfl) ?_
    refine vp_callSi (va_Run.run (va_runS (As := [.int p1, .int p2]) (rest := []) ⟨hx, hb, hml, hown, hts⟩ (c_X1_softLight l p1 p2 _ hw) (gcS 2 hts m389 m387 m388 m32 rfl rfl (by decide +kernel) ⟨Nat.le_of_ble_eq_true rfl, Nat.le_of_ble_eq_true rfl⟩) ⟨xbl0, fun U hU hW => ⟨rfl, trivial⟩⟩ rfl rfl hl.1 rfl (lv_room (Nat.le_of_ble_eq_true rfl)) dX1_ofBytes_110 ⟨Nat.le_of_ble_eq_true rfl, Nat.le_of_ble_eq_true rfl⟩)) (fun r16 hw => ?_)
    exact W.iret hx hb hr (fun t ht hW => ⟨_, rfl, hw, ht⟩) (fun q h => by cases h) dX1_ofBytes_113
  replace hw := And.right hw c15
  by_cases c17 : p0 = 10
  · replace hw := And.left hw c17
    refine lv_tableIn (tgt := 114) hx hb dX1_ofBytes_1 (by rw [c17]; decide) (by rw [c17]; decide) (by rw [c17]; rfl) (by decide) ?_
    refine lv_iload_n hx hb dX1_ofBytes_114 rfl (lv_at hl 1 rfl) ?_
    refine lv_iload_n hx hb dX1_ofBytes_115 rfl (lv_at hl 2 rfl) ?_
    refine va_mmax hx hb (hml.trans hl.1.symm) hown (hts _ (xm m347)) (hts _ (xm m47)) (hts _ (xm m22)) (hts _ (xm m48)) (Nat.le_of_ble_eq_true rfl) (Nat.le_of_ble_eq_true rfl) (Nat.le_of_ble_eq_true rfl) (Nat.le_of_ble_eq_true rfl) dX1_ofBytes_116 ?_
    refine lv_iload_n hx hb dX1_ofBytes_119 rfl (lv_at hl 1 rfl) ?_
    refine lv_iload_n hx hb dX1_ofBytes_120 rfl (lv_at hl 2 rfl) ?_
    refine va_mmin hx hb (hml.trans hl.1.symm) hown (hts _ (xm m351)) (hts _ (xm m44)) (hts _ (xm m22)) (hts _ (xm m45)) (Nat.le_of_ble_eq_true rfl) (Nat.le_of_ble_eq_true rfl) (Nat.le_of_ble_eq_true rfl) (Nat.le_of_ble_eq_true rfl) dX1_ofBytes_121 ?_
    refine lv_isub hx hb dX1_ofBytes_124 ?_
    exact W.iret hx hb hr (fun t ht hW => ⟨_, rfl, hw, ht⟩) (fun q h => by cases h) dX1_ofBytes_125
  replace hw := And.right hw c17
  by_cases c18 : p0 = 11
  · replace hw := And.left hw c18
    refine lv_tableIn (tgt := 126) hx hb dX1_ofBytes_1 (by rw [c18]; decide) (by rw [c18]; decide) (by rw [c18]; rfl) (by decide) ?_
    refine lv_iconst (v := 0) hx hb dX1_ofBytes_126 (by decide) ?_
    refine lv_iload_n hx hb dX1_ofBytes_127 rfl (lv_at hl 1 rfl) ?_
    refine lv_iload_n hx hb dX1_ofBytes_128 rfl (lv_at hl 2 rfl) ?_
    refine lv_iadd hx hb dX1_ofBytes_129 ?_
    refine lv_iconst (v := 2) hx hb dX1_ofBytes_130 (by decide) ?_
    refine lv_iload_n hx hb dX1_ofBytes_131 rfl (lv_at hl 1 rfl) ?_
    refine lv_iload_n hx hb dX1_ofBytes_132 rfl (lv_at hl 2 rfl) ?_
    refine vp_callSi (va_Run.run (va_runS (As := [.int p1, .int p2]) (rest := [.int 2, .int (p1 + p2), .int 0]) ⟨hx, hb, hml, hown, hts⟩ (c_X2_mul l p1 p2 _ hw) (gcS 2 hts m260 m376 m259 m30 rfl rfl (by decide +kernel) ⟨Nat.le_of_ble_eq_true rfl, Nat.le_of_ble_eq_true rfl⟩) ⟨xbl0, fun U hU hW => ⟨rfl, trivial⟩⟩ rfl rfl hl.1 rfl (lv_room (Nat.le_of_ble_eq_true rfl)) dX1_ofBytes_133 ⟨Nat.le_of_ble_eq_true rfl, Nat.le_of_ble_eq_true rfl⟩)) (fun r19 hw => ?_)
    refine lv_imul hx hb dX1_ofBytes_136 ?_
    refine lv_isub hx hb dX1_ofBytes_137 ?_
    refine va_mmax hx hb (hml.trans hl.1.symm) hown (hts _ (xm m347)) (hts _ (xm m47)) (hts _ (xm m22)) (hts _ (xm m48)) (Nat.le_of_ble_eq_true rfl) (Nat.le_of_ble_eq_true rfl) (Nat.le_of_ble_eq_true rfl) (Nat.le_of_ble_eq_true rfl) dX1_ofBytes_138 ?_
    exact W.iret hx hb hr (fun t ht hW => ⟨_, rfl, hw, ht⟩) (fun q h => by cases h) dX1_ofBytes_141
  replace hw := And.right hw c18
  refine lv_tableOut (tgt := 142) hx hb dX1_ofBytes_1 (xsw1_11 c1 c3 c5 c7 c8 c9 c11 c13 c15 c17 c18) (by decide) ?_
  refine lv_iload_n hx hb dX1_ofBytes_142 rfl (lv_at hl 2 rfl) ?_
  exact W.iret hx hb hr (fun t ht hW => ⟨_, rfl, hw, ht⟩) (fun q h => by cases h) dX1_ofBytes_143
abbrev wX1_ofColours : List Cond := Cond.code yX1_ofColours cX1_ofColours 3 (some .int) :: gG
def wp_X1_ofColours (p0 : Int32) (p1 : Int32) (p2 : Int32) (P : Int32 → Prop) : Prop :=
  ((p0 = 12 → wp_X1_satOf p1 (fun r2 => wp_X1_withSat p2 r2 (fun r3 => wp_X1_lumOf p1 (fun r4 => wp_X1_withLum r3 r4 (fun r5 => P r5))))) ∧
  (¬ p0 = 12 → ((p0 = 13 → wp_X1_satOf p2 (fun r7 => wp_X1_withSat p1 r7 (fun r8 => wp_X1_lumOf p1 (fun r9 => wp_X1_withLum r8 r9 (fun r10 => P r10))))) ∧
  (¬ p0 = 13 → ((p0 = 14 → wp_X1_lumOf p1 (fun r12 => wp_X1_withLum p2 r12 (fun r13 => P r13))) ∧
  (¬ p0 = 14 → ((p0 = 15 → wp_X1_lumOf p2 (fun r15 => wp_X1_withLum p1 r15 (fun r16 => P r16))) ∧
  (¬ p0 = 15 → wp_X2_bandOf p1 0 (fun r17 => wp_X2_bandOf p2 0 (fun r18 => wp_X1_ofBytes p0 r17 r18 (fun r19 => wp_X2_bandOf p1 1 (fun r20 => wp_X2_bandOf p2 1 (fun r21 => wp_X1_ofBytes p0 r20 r21 (fun r22 => wp_X2_bandOf p1 2 (fun r23 => wp_X2_bandOf p2 2 (fun r24 => wp_X1_ofBytes p0 r23 r24 (fun r25 => wp_X2_packed r19 r22 r25 (fun r26 => P r26))))))))))))))))))
abbrev rm_X1_ofColours : Room := { frames := 4, cells := 0, slots := 0, locals := 93 }
set_option maxHeartbeats 4000000 in
set_option maxRecDepth 100000 in
theorem c_X1_ofColours (l : Launch) (p0 : Int32) (p1 : Int32) (p2 : Int32) (P : Int32 → Prop) (hw : wp_X1_ofColours p0 p1 p2 P) : Met l yX1_ofColours wX1_ofColours rm_X1_ofColours (xP0 [.int p0, .int p1, .int p2]) (vp_Si P) 0 0 (fun _ => False) := by
  refine Met.ofW (cc := cX1_ofColours) (maxL := 3) (ret := (some .int)) (by decide) rfl ?_
  intro p e s m args below meth c s₁ B hml hv
  obtain ⟨hargs, -⟩ := hv
  have hx := B.exec
  have hb := B.bytes
  have hr := B.returns
  have hts := atoms_spec (ws := wX1_ofColours) B.pre
  have hown : s.vm.findClass RX1 = some m.cls := findClass_of_methodNamed B.named
  have hlocks := B.notSynchronized
  have hl := lv_entry ([.int p0, .int p1, .int p2]) (n := 3) (Nat.le_of_ble_eq_true rfl)
  rw [show entryFrame m args 3 = entryFrame m (([.int p0, .int p1, .int p2] : List Value).toArray) 3 from by rw [hargs], lg_entry_eq]
  generalize (lg_sl ([.int p0, .int p1, .int p2]) ++ List.replicate (3 - (lg_sl ([.int p0, .int p1, .int p2])).length) Slot.unset).toArray = ls at hl ⊢
  have hl : lv_has ls 3 [(0, .int p0), (1, .int p1), (2, .int p2)] := hl
  refine lv_iload_n hx hb dX1_ofColours_0 rfl (lv_at hl 0 rfl) ?_
  by_cases c1 : p0 = 12
  · replace hw := And.left hw c1
    refine lv_tableIn (tgt := 32) hx hb dX1_ofColours_1 (by rw [c1]; decide) (by rw [c1]; decide) (by rw [c1]; rfl) (by decide) ?_
    refine lv_iload_n hx hb dX1_ofColours_32 rfl (lv_at hl 2 rfl) ?_
    refine lv_iload_n hx hb dX1_ofColours_33 rfl (lv_at hl 1 rfl) ?_
    refine vp_callSi (va_Run.run (va_runS (As := [.int p1]) (rest := [.int p2]) ⟨hx, hb, hml, hown, hts⟩ (c_X1_satOf l p1 _ hw) (gcS 1 hts m342 m340 m341 m32 rfl rfl (by decide +kernel) ⟨Nat.le_of_ble_eq_true rfl, Nat.le_of_ble_eq_true rfl⟩) ⟨xbl0, fun U hU hW => ⟨rfl, trivial⟩⟩ rfl rfl hl.1 rfl (lv_room (Nat.le_of_ble_eq_true rfl)) dX1_ofColours_34 ⟨Nat.le_of_ble_eq_true rfl, Nat.le_of_ble_eq_true rfl⟩)) (fun r2 hw => ?_)
    refine vp_callSi (va_Run.run (va_runS (As := [.int p2, .int r2]) (rest := []) ⟨hx, hb, hml, hown, hts⟩ (c_X1_withSat l p2 r2 _ hw) (gcS 2 hts m354 m352 m353 m32 rfl rfl (by decide +kernel) ⟨Nat.le_of_ble_eq_true rfl, Nat.le_of_ble_eq_true rfl⟩) ⟨xbl0, fun U hU hW => ⟨rfl, trivial⟩⟩ rfl rfl hl.1 rfl (lv_room (Nat.le_of_ble_eq_true rfl)) dX1_ofColours_37 ⟨Nat.le_of_ble_eq_true rfl, Nat.le_of_ble_eq_true rfl⟩)) (fun r3 hw => ?_)
    refine lv_iload_n hx hb dX1_ofColours_40 rfl (lv_at hl 1 rfl) ?_
    refine vp_callSi (va_Run.run (va_runS (As := [.int p1]) (rest := [.int r3]) ⟨hx, hb, hml, hown, hts⟩ (c_X1_lumOf l p1 _ hw) (gcS 1 hts m358 m356 m357 m32 rfl rfl (by decide +kernel) ⟨Nat.le_of_ble_eq_true rfl, Nat.le_of_ble_eq_true rfl⟩) ⟨xbl0, fun U hU hW => ⟨rfl, trivial⟩⟩ rfl rfl hl.1 rfl (lv_room (Nat.le_of_ble_eq_true rfl)) dX1_ofColours_41 ⟨Nat.le_of_ble_eq_true rfl, Nat.le_of_ble_eq_true rfl⟩)) (fun r4 hw => ?_)
    refine vp_callSi (va_Run.run (va_runS (As := [.int r3, .int r4]) (rest := []) ⟨hx, hb, hml, hown, hts⟩ (c_X1_withLum l r3 r4 _ hw) (gcS 2 hts m367 m365 m366 m32 rfl rfl (by decide +kernel) ⟨Nat.le_of_ble_eq_true rfl, Nat.le_of_ble_eq_true rfl⟩) ⟨xbl0, fun U hU hW => ⟨rfl, trivial⟩⟩ rfl rfl hl.1 rfl (lv_room (Nat.le_of_ble_eq_true rfl)) dX1_ofColours_44 ⟨Nat.le_of_ble_eq_true rfl, Nat.le_of_ble_eq_true rfl⟩)) (fun r5 hw => ?_)
    exact W.iret hx hb hr (fun t ht hW => ⟨_, rfl, hw, ht⟩) (fun q h => by cases h) dX1_ofColours_47
  replace hw := And.right hw c1
  by_cases c6 : p0 = 13
  · replace hw := And.left hw c6
    refine lv_tableIn (tgt := 48) hx hb dX1_ofColours_1 (by rw [c6]; decide) (by rw [c6]; decide) (by rw [c6]; rfl) (by decide) ?_
    refine lv_iload_n hx hb dX1_ofColours_48 rfl (lv_at hl 1 rfl) ?_
    refine lv_iload_n hx hb dX1_ofColours_49 rfl (lv_at hl 2 rfl) ?_
    refine vp_callSi (va_Run.run (va_runS (As := [.int p2]) (rest := [.int p1]) ⟨hx, hb, hml, hown, hts⟩ (c_X1_satOf l p2 _ hw) (gcS 1 hts m342 m340 m341 m32 rfl rfl (by decide +kernel) ⟨Nat.le_of_ble_eq_true rfl, Nat.le_of_ble_eq_true rfl⟩) ⟨xbl0, fun U hU hW => ⟨rfl, trivial⟩⟩ rfl rfl hl.1 rfl (lv_room (Nat.le_of_ble_eq_true rfl)) dX1_ofColours_50 ⟨Nat.le_of_ble_eq_true rfl, Nat.le_of_ble_eq_true rfl⟩)) (fun r7 hw => ?_)
    refine vp_callSi (va_Run.run (va_runS (As := [.int p1, .int r7]) (rest := []) ⟨hx, hb, hml, hown, hts⟩ (c_X1_withSat l p1 r7 _ hw) (gcS 2 hts m354 m352 m353 m32 rfl rfl (by decide +kernel) ⟨Nat.le_of_ble_eq_true rfl, Nat.le_of_ble_eq_true rfl⟩) ⟨xbl0, fun U hU hW => ⟨rfl, trivial⟩⟩ rfl rfl hl.1 rfl (lv_room (Nat.le_of_ble_eq_true rfl)) dX1_ofColours_53 ⟨Nat.le_of_ble_eq_true rfl, Nat.le_of_ble_eq_true rfl⟩)) (fun r8 hw => ?_)
    refine lv_iload_n hx hb dX1_ofColours_56 rfl (lv_at hl 1 rfl) ?_
    refine vp_callSi (va_Run.run (va_runS (As := [.int p1]) (rest := [.int r8]) ⟨hx, hb, hml, hown, hts⟩ (c_X1_lumOf l p1 _ hw) (gcS 1 hts m358 m356 m357 m32 rfl rfl (by decide +kernel) ⟨Nat.le_of_ble_eq_true rfl, Nat.le_of_ble_eq_true rfl⟩) ⟨xbl0, fun U hU hW => ⟨rfl, trivial⟩⟩ rfl rfl hl.1 rfl (lv_room (Nat.le_of_ble_eq_true rfl)) dX1_ofColours_57 ⟨Nat.le_of_ble_eq_true rfl, Nat.le_of_ble_eq_true rfl⟩)) (fun r9 hw => ?_)
    refine vp_callSi (va_Run.run (va_runS (As := [.int r8, .int r9]) (rest := []) ⟨hx, hb, hml, hown, hts⟩ (c_X1_withLum l r8 r9 _ hw) (gcS 2 hts m367 m365 m366 m32 rfl rfl (by decide +kernel) ⟨Nat.le_of_ble_eq_true rfl, Nat.le_of_ble_eq_true rfl⟩) ⟨xbl0, fun U hU hW => ⟨rfl, trivial⟩⟩ rfl rfl hl.1 rfl (lv_room (Nat.le_of_ble_eq_true rfl)) dX1_ofColours_60 ⟨Nat.le_of_ble_eq_true rfl, Nat.le_of_ble_eq_true rfl⟩)) (fun r10 hw => ?_)
    exact W.iret hx hb hr (fun t ht hW => ⟨_, rfl, hw, ht⟩) (fun q h => by cases h) dX1_ofColours_63
  replace hw := And.right hw c6
  by_cases c11 : p0 = 14
  · replace hw := And.left hw c11
    refine lv_tableIn (tgt := 64) hx hb dX1_ofColours_1 (by rw [c11]; decide) (by rw [c11]; decide) (by rw [c11]; rfl) (by decide) ?_
    refine lv_iload_n hx hb dX1_ofColours_64 rfl (lv_at hl 2 rfl) ?_
    refine lv_iload_n hx hb dX1_ofColours_65 rfl (lv_at hl 1 rfl) ?_
    refine vp_callSi (va_Run.run (va_runS (As := [.int p1]) (rest := [.int p2]) ⟨hx, hb, hml, hown, hts⟩ (c_X1_lumOf l p1 _ hw) (gcS 1 hts m358 m356 m357 m32 rfl rfl (by decide +kernel) ⟨Nat.le_of_ble_eq_true rfl, Nat.le_of_ble_eq_true rfl⟩) ⟨xbl0, fun U hU hW => ⟨rfl, trivial⟩⟩ rfl rfl hl.1 rfl (lv_room (Nat.le_of_ble_eq_true rfl)) dX1_ofColours_66 ⟨Nat.le_of_ble_eq_true rfl, Nat.le_of_ble_eq_true rfl⟩)) (fun r12 hw => ?_)
    refine vp_callSi (va_Run.run (va_runS (As := [.int p2, .int r12]) (rest := []) ⟨hx, hb, hml, hown, hts⟩ (c_X1_withLum l p2 r12 _ hw) (gcS 2 hts m367 m365 m366 m32 rfl rfl (by decide +kernel) ⟨Nat.le_of_ble_eq_true rfl, Nat.le_of_ble_eq_true rfl⟩) ⟨xbl0, fun U hU hW => ⟨rfl, trivial⟩⟩ rfl rfl hl.1 rfl (lv_room (Nat.le_of_ble_eq_true rfl)) dX1_ofColours_69 ⟨Nat.le_of_ble_eq_true rfl, Nat.le_of_ble_eq_true rfl⟩)) (fun r13 hw => ?_)
    exact W.iret hx hb hr (fun t ht hW => ⟨_, rfl, hw, ht⟩) (fun q h => by cases h) dX1_ofColours_72
  replace hw := And.right hw c11
  by_cases c14 : p0 = 15
  · replace hw := And.left hw c14
    refine lv_tableIn (tgt := 73) hx hb dX1_ofColours_1 (by rw [c14]; decide) (by rw [c14]; decide) (by rw [c14]; rfl) (by decide) ?_
    refine lv_iload_n hx hb dX1_ofColours_73 rfl (lv_at hl 1 rfl) ?_
    refine lv_iload_n hx hb dX1_ofColours_74 rfl (lv_at hl 2 rfl) ?_
    refine vp_callSi (va_Run.run (va_runS (As := [.int p2]) (rest := [.int p1]) ⟨hx, hb, hml, hown, hts⟩ (c_X1_lumOf l p2 _ hw) (gcS 1 hts m358 m356 m357 m32 rfl rfl (by decide +kernel) ⟨Nat.le_of_ble_eq_true rfl, Nat.le_of_ble_eq_true rfl⟩) ⟨xbl0, fun U hU hW => ⟨rfl, trivial⟩⟩ rfl rfl hl.1 rfl (lv_room (Nat.le_of_ble_eq_true rfl)) dX1_ofColours_75 ⟨Nat.le_of_ble_eq_true rfl, Nat.le_of_ble_eq_true rfl⟩)) (fun r15 hw => ?_)
    refine vp_callSi (va_Run.run (va_runS (As := [.int p1, .int r15]) (rest := []) ⟨hx, hb, hml, hown, hts⟩ (c_X1_withLum l p1 r15 _ hw) (gcS 2 hts m367 m365 m366 m32 rfl rfl (by decide +kernel) ⟨Nat.le_of_ble_eq_true rfl, Nat.le_of_ble_eq_true rfl⟩) ⟨xbl0, fun U hU hW => ⟨rfl, trivial⟩⟩ rfl rfl hl.1 rfl (lv_room (Nat.le_of_ble_eq_true rfl)) dX1_ofColours_78 ⟨Nat.le_of_ble_eq_true rfl, Nat.le_of_ble_eq_true rfl⟩)) (fun r16 hw => ?_)
    exact W.iret hx hb hr (fun t ht hW => ⟨_, rfl, hw, ht⟩) (fun q h => by cases h) dX1_ofColours_81
  replace hw := And.right hw c14
  refine lv_tableOut (tgt := 82) hx hb dX1_ofColours_1 (xsw12_15 c1 c6 c11 c14) (by decide) ?_
  refine lv_iload_n hx hb dX1_ofColours_82 rfl (lv_at hl 0 rfl) ?_
  refine lv_iload_n hx hb dX1_ofColours_83 rfl (lv_at hl 1 rfl) ?_
  refine lv_iconst (v := 0) hx hb dX1_ofColours_84 (by decide) ?_
  refine vp_callSi (va_Run.run (va_runS (As := [.int p1, .int 0]) (rest := [.int p0]) ⟨hx, hb, hml, hown, hts⟩ (c_X2_bandOf l p1 0 _ hw) (gcS 2 hts m320 m343 m319 m30 rfl rfl (by decide +kernel) ⟨Nat.le_of_ble_eq_true rfl, Nat.le_of_ble_eq_true rfl⟩) ⟨xbl0, fun U hU hW => ⟨rfl, trivial⟩⟩ rfl rfl hl.1 rfl (lv_room (Nat.le_of_ble_eq_true rfl)) dX1_ofColours_85 ⟨Nat.le_of_ble_eq_true rfl, Nat.le_of_ble_eq_true rfl⟩)) (fun r17 hw => ?_)
  refine lv_iload_n hx hb dX1_ofColours_88 rfl (lv_at hl 2 rfl) ?_
  refine lv_iconst (v := 0) hx hb dX1_ofColours_89 (by decide) ?_
  refine vp_callSi (va_Run.run (va_runS (As := [.int p2, .int 0]) (rest := [.int r17, .int p0]) ⟨hx, hb, hml, hown, hts⟩ (c_X2_bandOf l p2 0 _ hw) (gcS 2 hts m320 m343 m319 m30 rfl rfl (by decide +kernel) ⟨Nat.le_of_ble_eq_true rfl, Nat.le_of_ble_eq_true rfl⟩) ⟨xbl0, fun U hU hW => ⟨rfl, trivial⟩⟩ rfl rfl hl.1 rfl (lv_room (Nat.le_of_ble_eq_true rfl)) dX1_ofColours_90 ⟨Nat.le_of_ble_eq_true rfl, Nat.le_of_ble_eq_true rfl⟩)) (fun r18 hw => ?_)
  refine vp_callSi (va_Run.run (va_runS (As := [.int p0, .int r17, .int r18]) (rest := []) ⟨hx, hb, hml, hown, hts⟩ (c_X1_ofBytes l p0 r17 r18 _ hw) (gcS 3 hts m375 m373 m374 m32 rfl rfl (by decide +kernel) ⟨Nat.le_of_ble_eq_true rfl, Nat.le_of_ble_eq_true rfl⟩) ⟨xbl0, fun U hU hW => ⟨rfl, trivial⟩⟩ rfl rfl hl.1 rfl (lv_room (Nat.le_of_ble_eq_true rfl)) dX1_ofColours_93 ⟨Nat.le_of_ble_eq_true rfl, Nat.le_of_ble_eq_true rfl⟩)) (fun r19 hw => ?_)
  refine lv_iload_n hx hb dX1_ofColours_96 rfl (lv_at hl 0 rfl) ?_
  refine lv_iload_n hx hb dX1_ofColours_97 rfl (lv_at hl 1 rfl) ?_
  refine lv_iconst (v := 1) hx hb dX1_ofColours_98 (by decide) ?_
  refine vp_callSi (va_Run.run (va_runS (As := [.int p1, .int 1]) (rest := [.int p0, .int r19]) ⟨hx, hb, hml, hown, hts⟩ (c_X2_bandOf l p1 1 _ hw) (gcS 2 hts m320 m343 m319 m30 rfl rfl (by decide +kernel) ⟨Nat.le_of_ble_eq_true rfl, Nat.le_of_ble_eq_true rfl⟩) ⟨xbl0, fun U hU hW => ⟨rfl, trivial⟩⟩ rfl rfl hl.1 rfl (lv_room (Nat.le_of_ble_eq_true rfl)) dX1_ofColours_99 ⟨Nat.le_of_ble_eq_true rfl, Nat.le_of_ble_eq_true rfl⟩)) (fun r20 hw => ?_)
  refine lv_iload_n hx hb dX1_ofColours_102 rfl (lv_at hl 2 rfl) ?_
  refine lv_iconst (v := 1) hx hb dX1_ofColours_103 (by decide) ?_
  refine vp_callSi (va_Run.run (va_runS (As := [.int p2, .int 1]) (rest := [.int r20, .int p0, .int r19]) ⟨hx, hb, hml, hown, hts⟩ (c_X2_bandOf l p2 1 _ hw) (gcS 2 hts m320 m343 m319 m30 rfl rfl (by decide +kernel) ⟨Nat.le_of_ble_eq_true rfl, Nat.le_of_ble_eq_true rfl⟩) ⟨xbl0, fun U hU hW => ⟨rfl, trivial⟩⟩ rfl rfl hl.1 rfl (lv_room (Nat.le_of_ble_eq_true rfl)) dX1_ofColours_104 ⟨Nat.le_of_ble_eq_true rfl, Nat.le_of_ble_eq_true rfl⟩)) (fun r21 hw => ?_)
  refine vp_callSi (va_Run.run (va_runS (As := [.int p0, .int r20, .int r21]) (rest := [.int r19]) ⟨hx, hb, hml, hown, hts⟩ (c_X1_ofBytes l p0 r20 r21 _ hw) (gcS 3 hts m375 m373 m374 m32 rfl rfl (by decide +kernel) ⟨Nat.le_of_ble_eq_true rfl, Nat.le_of_ble_eq_true rfl⟩) ⟨xbl0, fun U hU hW => ⟨rfl, trivial⟩⟩ rfl rfl hl.1 rfl (lv_room (Nat.le_of_ble_eq_true rfl)) dX1_ofColours_107 ⟨Nat.le_of_ble_eq_true rfl, Nat.le_of_ble_eq_true rfl⟩)) (fun r22 hw => ?_)
  refine lv_iload_n hx hb dX1_ofColours_110 rfl (lv_at hl 0 rfl) ?_
  refine lv_iload_n hx hb dX1_ofColours_111 rfl (lv_at hl 1 rfl) ?_
  refine lv_iconst (v := 2) hx hb dX1_ofColours_112 (by decide) ?_
  refine vp_callSi (va_Run.run (va_runS (As := [.int p1, .int 2]) (rest := [.int p0, .int r22, .int r19]) ⟨hx, hb, hml, hown, hts⟩ (c_X2_bandOf l p1 2 _ hw) (gcS 2 hts m320 m343 m319 m30 rfl rfl (by decide +kernel) ⟨Nat.le_of_ble_eq_true rfl, Nat.le_of_ble_eq_true rfl⟩) ⟨xbl0, fun U hU hW => ⟨rfl, trivial⟩⟩ rfl rfl hl.1 rfl (lv_room (Nat.le_of_ble_eq_true rfl)) dX1_ofColours_113 ⟨Nat.le_of_ble_eq_true rfl, Nat.le_of_ble_eq_true rfl⟩)) (fun r23 hw => ?_)
  refine lv_iload_n hx hb dX1_ofColours_116 rfl (lv_at hl 2 rfl) ?_
  refine lv_iconst (v := 2) hx hb dX1_ofColours_117 (by decide) ?_
  refine vp_callSi (va_Run.run (va_runS (As := [.int p2, .int 2]) (rest := [.int r23, .int p0, .int r22, .int r19]) ⟨hx, hb, hml, hown, hts⟩ (c_X2_bandOf l p2 2 _ hw) (gcS 2 hts m320 m343 m319 m30 rfl rfl (by decide +kernel) ⟨Nat.le_of_ble_eq_true rfl, Nat.le_of_ble_eq_true rfl⟩) ⟨xbl0, fun U hU hW => ⟨rfl, trivial⟩⟩ rfl rfl hl.1 rfl (lv_room (Nat.le_of_ble_eq_true rfl)) dX1_ofColours_118 ⟨Nat.le_of_ble_eq_true rfl, Nat.le_of_ble_eq_true rfl⟩)) (fun r24 hw => ?_)
  refine vp_callSi (va_Run.run (va_runS (As := [.int p0, .int r23, .int r24]) (rest := [.int r22, .int r19]) ⟨hx, hb, hml, hown, hts⟩ (c_X1_ofBytes l p0 r23 r24 _ hw) (gcS 3 hts m375 m373 m374 m32 rfl rfl (by decide +kernel) ⟨Nat.le_of_ble_eq_true rfl, Nat.le_of_ble_eq_true rfl⟩) ⟨xbl0, fun U hU hW => ⟨rfl, trivial⟩⟩ rfl rfl hl.1 rfl (lv_room (Nat.le_of_ble_eq_true rfl)) dX1_ofColours_121 ⟨Nat.le_of_ble_eq_true rfl, Nat.le_of_ble_eq_true rfl⟩)) (fun r25 hw => ?_)
  refine vp_callSi (va_Run.run (va_runS (As := [.int r19, .int r22, .int r25]) (rest := []) ⟨hx, hb, hml, hown, hts⟩ (c_X2_packed l r19 r22 r25 _ hw) (gcS 3 hts m328 m355 m327 m30 rfl rfl (by decide +kernel) ⟨Nat.le_of_ble_eq_true rfl, Nat.le_of_ble_eq_true rfl⟩) ⟨xbl0, fun U hU hW => ⟨rfl, trivial⟩⟩ rfl rfl hl.1 rfl (lv_room (Nat.le_of_ble_eq_true rfl)) dX1_ofColours_124 ⟨Nat.le_of_ble_eq_true rfl, Nat.le_of_ble_eq_true rfl⟩)) (fun r26 hw => ?_)
  exact W.iret hx hb hr (fun t ht hW => ⟨_, rfl, hw, ht⟩) (fun q h => by cases h) dX1_ofColours_127
end
section
theorem m24 : Cond.initialized yX4_mul.cls ∈ gG := gG_mk (i := 24) (by decide +kernel) (by decide +kernel)
theorem m619 : Cond.methodLink RX4 75 yX4_mul ∈ gG := gG_mk (i := 619) (by decide +kernel) (by decide +kernel)
theorem m620 : Cond.static yX4_mul ∈ gG := gG_mk (i := 620) (by decide +kernel) (by decide +kernel)
theorem m621 : Cond.code yX4_mul cX4_mul 2 (some .int) ∈ gG := gG_mk (i := 621) (by decide +kernel) (by decide +kernel)
theorem m656 : Cond.methodLink RX4 79 yX4_hard ∈ gG := gG_mk (i := 656) (by decide +kernel) (by decide +kernel)
theorem m657 : Cond.static yX4_hard ∈ gG := gG_mk (i := 657) (by decide +kernel) (by decide +kernel)
theorem m658 : Cond.code yX4_hard cX4_hard 3 (some .int) ∈ gG := gG_mk (i := 658) (by decide +kernel) (by decide +kernel)
theorem m659 : Cond.methodLink RX4 82 yX4_dodge ∈ gG := gG_mk (i := 659) (by decide +kernel) (by decide +kernel)
theorem m660 : Cond.static yX4_dodge ∈ gG := gG_mk (i := 660) (by decide +kernel) (by decide +kernel)
theorem m661 : Cond.code yX4_dodge cX4_dodge 2 (some .int) ∈ gG := gG_mk (i := 661) (by decide +kernel) (by decide +kernel)
theorem m662 : Cond.methodLink RX4 85 yX4_burn ∈ gG := gG_mk (i := 662) (by decide +kernel) (by decide +kernel)
theorem m663 : Cond.static yX4_burn ∈ gG := gG_mk (i := 663) (by decide +kernel) (by decide +kernel)
theorem m664 : Cond.code yX4_burn cX4_burn 2 (some .int) ∈ gG := gG_mk (i := 664) (by decide +kernel) (by decide +kernel)
theorem m665 : Cond.methodLink RX4 88 yX4_soft ∈ gG := gG_mk (i := 665) (by decide +kernel) (by decide +kernel)
theorem m666 : Cond.static yX4_soft ∈ gG := gG_mk (i := 666) (by decide +kernel) (by decide +kernel)
theorem m667 : Cond.code yX4_soft cX4_soft 3 (some .int) ∈ gG := gG_mk (i := 667) (by decide +kernel) (by decide +kernel)
abbrev wX4_mul : List Cond := Cond.code yX4_mul cX4_mul 2 (some .int) :: gG
def wp_X4_mul (p0 : Int32) (p1 : Int32) (P : Int32 → Prop) : Prop :=
  P (((p0 * p1) + 127) / 255)
abbrev rm_X4_mul : Room := { frames := 0, cells := 0, slots := 0, locals := 0 }
set_option maxHeartbeats 4000000 in
set_option maxRecDepth 100000 in
theorem c_X4_mul (l : Launch) (p0 : Int32) (p1 : Int32) (P : Int32 → Prop) (hw : wp_X4_mul p0 p1 P) : Met l yX4_mul wX4_mul rm_X4_mul (xP0 [.int p0, .int p1]) (vp_Si P) 0 0 (fun _ => False) := by
  refine Met.ofW (cc := cX4_mul) (maxL := 2) (ret := (some .int)) (by decide) rfl ?_
  intro p e s m args below meth c s₁ B hml hv
  obtain ⟨hargs, -⟩ := hv
  have hx := B.exec
  have hb := B.bytes
  have hr := B.returns
  have hts := atoms_spec (ws := wX4_mul) B.pre
  have hown : s.vm.findClass RX4 = some m.cls := findClass_of_methodNamed B.named
  have hlocks := B.notSynchronized
  have hl := lv_entry ([.int p0, .int p1]) (n := 2) (Nat.le_of_ble_eq_true rfl)
  rw [show entryFrame m args 2 = entryFrame m (([.int p0, .int p1] : List Value).toArray) 2 from by rw [hargs], lg_entry_eq]
  generalize (lg_sl ([.int p0, .int p1]) ++ List.replicate (2 - (lg_sl ([.int p0, .int p1])).length) Slot.unset).toArray = ls at hl ⊢
  have hl : lv_has ls 2 [(0, .int p0), (1, .int p1)] := hl
  refine lv_iload_n hx hb dX4_mul_0 rfl (lv_at hl 0 rfl) ?_
  refine lv_iload_n hx hb dX4_mul_1 rfl (lv_at hl 1 rfl) ?_
  refine lv_imul hx hb dX4_mul_2 ?_
  refine lv_bipush (v := 127) hx hb dX4_mul_3 (by decide) ?_
  refine lv_iadd hx hb dX4_mul_5 ?_
  refine lv_sipush (v := 255) hx hb dX4_mul_6 (by decide) ?_
  refine lv_idiv hx hb dX4_mul_9 (by decide) ?_
  exact W.iret hx hb hr (fun t ht hW => ⟨_, rfl, hw, ht⟩) (fun q h => by cases h) dX4_mul_10
abbrev wX4_isByte : List Cond := Cond.code yX4_isByte cX4_isByte 1 (some .boolean) :: gG
def wp_X4_isByte (p0 : Int32) (P : Int32 → Prop) : Prop :=
  ((p0 < 0 → P 0) ∧
  (¬ p0 < 0 → ((255 < p0 → P 0) ∧
  (¬ 255 < p0 → P 1))))
abbrev rm_X4_isByte : Room := { frames := 0, cells := 0, slots := 0, locals := 0 }
set_option maxHeartbeats 4000000 in
set_option maxRecDepth 100000 in
theorem c_X4_isByte (l : Launch) (p0 : Int32) (P : Int32 → Prop) (hw : wp_X4_isByte p0 P) : Met l yX4_isByte wX4_isByte rm_X4_isByte (xP0 [.int p0]) (vp_Si P) 0 0 (fun _ => False) := by
  refine Met.ofW (cc := cX4_isByte) (maxL := 1) (ret := (some .boolean)) (by decide) rfl ?_
  intro p e s m args below meth c s₁ B hml hv
  obtain ⟨hargs, -⟩ := hv
  have hx := B.exec
  have hb := B.bytes
  have hr := B.returns
  have hts := atoms_spec (ws := wX4_isByte) B.pre
  have hown : s.vm.findClass RX4 = some m.cls := findClass_of_methodNamed B.named
  have hlocks := B.notSynchronized
  have hl := lv_entry ([.int p0]) (n := 1) (Nat.le_of_ble_eq_true rfl)
  rw [show entryFrame m args 1 = entryFrame m (([.int p0] : List Value).toArray) 1 from by rw [hargs], lg_entry_eq]
  generalize (lg_sl ([.int p0]) ++ List.replicate (1 - (lg_sl ([.int p0])).length) Slot.unset).toArray = ls at hl ⊢
  have hl : lv_has ls 1 [(0, .int p0)] := hl
  refine lv_iload_n hx hb dX4_isByte_0 rfl (lv_at hl 0 rfl) ?_
  refine lv_if_lt (tgt := 15) hx hb dX4_isByte_1 (by decide) (fun c2 => ?_) (fun c2 => ?_)
  · replace hw := And.left hw c2
    refine lv_iconst (v := 0) hx hb dX4_isByte_15 (by decide) ?_
    exact W.zret (ty := .boolean) hx hb hr rfl (fun t ht hW => ⟨_, rfl, hw, ht⟩) (fun q h => by cases h) dX4_isByte_16
  · replace hw := And.right hw c2
    refine lv_iload_n hx hb dX4_isByte_4 rfl (lv_at hl 0 rfl) ?_
    refine lv_sipush (v := 255) hx hb dX4_isByte_5 (by decide) ?_
    refine lv_icmp_gt (tgt := 15) hx hb dX4_isByte_8 (by decide) (fun c1 => ?_) (fun c1 => ?_)
    · replace hw := And.left hw c1
      refine lv_iconst (v := 0) hx hb dX4_isByte_15 (by decide) ?_
      exact W.zret (ty := .boolean) hx hb hr rfl (fun t ht hW => ⟨_, rfl, hw, ht⟩) (fun q h => by cases h) dX4_isByte_16
    · replace hw := And.right hw c1
      refine lv_iconst (v := 1) hx hb dX4_isByte_11 (by decide) ?_
      refine lv_goto (tgt := 16) hx hb dX4_isByte_12 (by decide) ?_
      exact W.zret (ty := .boolean) hx hb hr rfl (fun t ht hW => ⟨_, rfl, hw, ht⟩) (fun q h => by cases h) dX4_isByte_16
abbrev wX4_isBand : List Cond := Cond.code yX4_isBand cX4_isBand 1 (some .boolean) :: gG
def wp_X4_isBand (p0 : Int32) (P : Int32 → Prop) : Prop :=
  ((p0 < 0 → P 0) ∧
  (¬ p0 < 0 → ((3 ≤ p0 → P 0) ∧
  (¬ 3 ≤ p0 → P 1))))
abbrev rm_X4_isBand : Room := { frames := 0, cells := 0, slots := 0, locals := 0 }
set_option maxHeartbeats 4000000 in
set_option maxRecDepth 100000 in
theorem c_X4_isBand (l : Launch) (p0 : Int32) (P : Int32 → Prop) (hw : wp_X4_isBand p0 P) : Met l yX4_isBand wX4_isBand rm_X4_isBand (xP0 [.int p0]) (vp_Si P) 0 0 (fun _ => False) := by
  refine Met.ofW (cc := cX4_isBand) (maxL := 1) (ret := (some .boolean)) (by decide) rfl ?_
  intro p e s m args below meth c s₁ B hml hv
  obtain ⟨hargs, -⟩ := hv
  have hx := B.exec
  have hb := B.bytes
  have hr := B.returns
  have hts := atoms_spec (ws := wX4_isBand) B.pre
  have hown : s.vm.findClass RX4 = some m.cls := findClass_of_methodNamed B.named
  have hlocks := B.notSynchronized
  have hl := lv_entry ([.int p0]) (n := 1) (Nat.le_of_ble_eq_true rfl)
  rw [show entryFrame m args 1 = entryFrame m (([.int p0] : List Value).toArray) 1 from by rw [hargs], lg_entry_eq]
  generalize (lg_sl ([.int p0]) ++ List.replicate (1 - (lg_sl ([.int p0])).length) Slot.unset).toArray = ls at hl ⊢
  have hl : lv_has ls 1 [(0, .int p0)] := hl
  refine lv_iload_n hx hb dX4_isBand_0 rfl (lv_at hl 0 rfl) ?_
  refine lv_if_lt (tgt := 13) hx hb dX4_isBand_1 (by decide) (fun c2 => ?_) (fun c2 => ?_)
  · replace hw := And.left hw c2
    refine lv_iconst (v := 0) hx hb dX4_isBand_13 (by decide) ?_
    exact W.zret (ty := .boolean) hx hb hr rfl (fun t ht hW => ⟨_, rfl, hw, ht⟩) (fun q h => by cases h) dX4_isBand_14
  · replace hw := And.right hw c2
    refine lv_iload_n hx hb dX4_isBand_4 rfl (lv_at hl 0 rfl) ?_
    refine lv_iconst (v := 3) hx hb dX4_isBand_5 (by decide) ?_
    refine lv_icmp_ge (tgt := 13) hx hb dX4_isBand_6 (by decide) (fun c1 => ?_) (fun c1 => ?_)
    · replace hw := And.left hw c1
      refine lv_iconst (v := 0) hx hb dX4_isBand_13 (by decide) ?_
      exact W.zret (ty := .boolean) hx hb hr rfl (fun t ht hW => ⟨_, rfl, hw, ht⟩) (fun q h => by cases h) dX4_isBand_14
    · replace hw := And.right hw c1
      refine lv_iconst (v := 1) hx hb dX4_isBand_9 (by decide) ?_
      refine lv_goto (tgt := 14) hx hb dX4_isBand_10 (by decide) ?_
      exact W.zret (ty := .boolean) hx hb hr rfl (fun t ht hW => ⟨_, rfl, hw, ht⟩) (fun q h => by cases h) dX4_isBand_14
abbrev wX4_dodge : List Cond := Cond.code yX4_dodge cX4_dodge 2 (some .int) :: gG
def wp_X4_dodge (p0 : Int32) (p1 : Int32) (P : Int32 → Prop) : Prop :=
  ((¬ p0 = 0 → (((p0 + p1) < 255 → (¬ (255 - p1) = 0 ∧ P (((255 * p0) + ((255 - p1) / 2)) / (255 - p1)))) ∧
  (¬ (p0 + p1) < 255 → P 255))) ∧
  (p0 = 0 → P 0))
abbrev rm_X4_dodge : Room := { frames := 0, cells := 0, slots := 0, locals := 0 }
set_option maxHeartbeats 4000000 in
set_option maxRecDepth 100000 in
theorem c_X4_dodge (l : Launch) (p0 : Int32) (p1 : Int32) (P : Int32 → Prop) (hw : wp_X4_dodge p0 p1 P) : Met l yX4_dodge wX4_dodge rm_X4_dodge (xP0 [.int p0, .int p1]) (vp_Si P) 0 0 (fun _ => False) := by
  refine Met.ofW (cc := cX4_dodge) (maxL := 2) (ret := (some .int)) (by decide) rfl ?_
  intro p e s m args below meth c s₁ B hml hv
  obtain ⟨hargs, -⟩ := hv
  have hx := B.exec
  have hb := B.bytes
  have hr := B.returns
  have hts := atoms_spec (ws := wX4_dodge) B.pre
  have hown : s.vm.findClass RX4 = some m.cls := findClass_of_methodNamed B.named
  have hlocks := B.notSynchronized
  have hl := lv_entry ([.int p0, .int p1]) (n := 2) (Nat.le_of_ble_eq_true rfl)
  rw [show entryFrame m args 2 = entryFrame m (([.int p0, .int p1] : List Value).toArray) 2 from by rw [hargs], lg_entry_eq]
  generalize (lg_sl ([.int p0, .int p1]) ++ List.replicate (2 - (lg_sl ([.int p0, .int p1])).length) Slot.unset).toArray = ls at hl ⊢
  have hl : lv_has ls 2 [(0, .int p0), (1, .int p1)] := hl
  refine lv_iload_n hx hb dX4_dodge_0 rfl (lv_at hl 0 rfl) ?_
  refine lv_if_ne (tgt := 6) hx hb dX4_dodge_1 (by decide) (fun c2 => ?_) (fun c2 => ?_)
  · replace hw := And.left hw c2
    refine lv_iload_n hx hb dX4_dodge_6 rfl (lv_at hl 0 rfl) ?_
    refine lv_iload_n hx hb dX4_dodge_7 rfl (lv_at hl 1 rfl) ?_
    refine lv_iadd hx hb dX4_dodge_8 ?_
    refine lv_sipush (v := 255) hx hb dX4_dodge_9 (by decide) ?_
    refine lv_icmp_lt (tgt := 21) hx hb dX4_dodge_12 (by decide) (fun c1 => ?_) (fun c1 => ?_)
    · replace hw := And.left hw c1
      refine lv_sipush (v := 255) hx hb dX4_dodge_21 (by decide) ?_
      refine lv_iload_n hx hb dX4_dodge_24 rfl (lv_at hl 0 rfl) ?_
      refine lv_imul hx hb dX4_dodge_25 ?_
      refine lv_sipush (v := 255) hx hb dX4_dodge_26 (by decide) ?_
      refine lv_iload_n hx hb dX4_dodge_29 rfl (lv_at hl 1 rfl) ?_
      refine lv_isub hx hb dX4_dodge_30 ?_
      refine lv_iconst (v := 2) hx hb dX4_dodge_31 (by decide) ?_
      refine lv_idiv hx hb dX4_dodge_32 (by decide) ?_
      refine lv_iadd hx hb dX4_dodge_33 ?_
      refine lv_sipush (v := 255) hx hb dX4_dodge_34 (by decide) ?_
      refine lv_iload_n hx hb dX4_dodge_37 rfl (lv_at hl 1 rfl) ?_
      refine lv_isub hx hb dX4_dodge_38 ?_
      refine lv_idiv hx hb dX4_dodge_39 (And.left hw) ?_
      replace hw := And.right hw
      exact W.iret hx hb hr (fun t ht hW => ⟨_, rfl, hw, ht⟩) (fun q h => by cases h) dX4_dodge_40
    · replace hw := And.right hw c1
      refine lv_sipush (v := 255) hx hb dX4_dodge_15 (by decide) ?_
      refine lv_goto (tgt := 40) hx hb dX4_dodge_18 (by decide) ?_
      exact W.iret hx hb hr (fun t ht hW => ⟨_, rfl, hw, ht⟩) (fun q h => by cases h) dX4_dodge_40
  · replace hw := And.right hw c2
    refine lv_iconst (v := 0) hx hb dX4_dodge_4 (by decide) ?_
    exact W.iret hx hb hr (fun t ht hW => ⟨_, rfl, hw, ht⟩) (fun q h => by cases h) dX4_dodge_5
abbrev wX4_burn : List Cond := Cond.code yX4_burn cX4_burn 2 (some .int) :: gG
def wp_X4_burn (p0 : Int32) (p1 : Int32) (P : Int32 → Prop) : Prop :=
  ((¬ p0 = 255 → ((255 < (p0 + p1) → (¬ p1 = 0 ∧ P (255 - (((255 * (255 - p0)) + (p1 / 2)) / p1)))) ∧
  (¬ 255 < (p0 + p1) → P 0))) ∧
  (p0 = 255 → P 255))
abbrev rm_X4_burn : Room := { frames := 0, cells := 0, slots := 0, locals := 0 }
set_option maxHeartbeats 4000000 in
set_option maxRecDepth 100000 in
theorem c_X4_burn (l : Launch) (p0 : Int32) (p1 : Int32) (P : Int32 → Prop) (hw : wp_X4_burn p0 p1 P) : Met l yX4_burn wX4_burn rm_X4_burn (xP0 [.int p0, .int p1]) (vp_Si P) 0 0 (fun _ => False) := by
  refine Met.ofW (cc := cX4_burn) (maxL := 2) (ret := (some .int)) (by decide) rfl ?_
  intro p e s m args below meth c s₁ B hml hv
  obtain ⟨hargs, -⟩ := hv
  have hx := B.exec
  have hb := B.bytes
  have hr := B.returns
  have hts := atoms_spec (ws := wX4_burn) B.pre
  have hown : s.vm.findClass RX4 = some m.cls := findClass_of_methodNamed B.named
  have hlocks := B.notSynchronized
  have hl := lv_entry ([.int p0, .int p1]) (n := 2) (Nat.le_of_ble_eq_true rfl)
  rw [show entryFrame m args 2 = entryFrame m (([.int p0, .int p1] : List Value).toArray) 2 from by rw [hargs], lg_entry_eq]
  generalize (lg_sl ([.int p0, .int p1]) ++ List.replicate (2 - (lg_sl ([.int p0, .int p1])).length) Slot.unset).toArray = ls at hl ⊢
  have hl : lv_has ls 2 [(0, .int p0), (1, .int p1)] := hl
  refine lv_iload_n hx hb dX4_burn_0 rfl (lv_at hl 0 rfl) ?_
  refine lv_sipush (v := 255) hx hb dX4_burn_1 (by decide) ?_
  refine lv_icmp_ne (tgt := 11) hx hb dX4_burn_4 (by decide) (fun c2 => ?_) (fun c2 => ?_)
  · replace hw := And.left hw c2
    refine lv_iload_n hx hb dX4_burn_11 rfl (lv_at hl 0 rfl) ?_
    refine lv_iload_n hx hb dX4_burn_12 rfl (lv_at hl 1 rfl) ?_
    refine lv_iadd hx hb dX4_burn_13 ?_
    refine lv_sipush (v := 255) hx hb dX4_burn_14 (by decide) ?_
    refine lv_icmp_gt (tgt := 24) hx hb dX4_burn_17 (by decide) (fun c1 => ?_) (fun c1 => ?_)
    · replace hw := And.left hw c1
      refine lv_sipush (v := 255) hx hb dX4_burn_24 (by decide) ?_
      refine lv_sipush (v := 255) hx hb dX4_burn_27 (by decide) ?_
      refine lv_sipush (v := 255) hx hb dX4_burn_30 (by decide) ?_
      refine lv_iload_n hx hb dX4_burn_33 rfl (lv_at hl 0 rfl) ?_
      refine lv_isub hx hb dX4_burn_34 ?_
      refine lv_imul hx hb dX4_burn_35 ?_
      refine lv_iload_n hx hb dX4_burn_36 rfl (lv_at hl 1 rfl) ?_
      refine lv_iconst (v := 2) hx hb dX4_burn_37 (by decide) ?_
      refine lv_idiv hx hb dX4_burn_38 (by decide) ?_
      refine lv_iadd hx hb dX4_burn_39 ?_
      refine lv_iload_n hx hb dX4_burn_40 rfl (lv_at hl 1 rfl) ?_
      refine lv_idiv hx hb dX4_burn_41 (And.left hw) ?_
      replace hw := And.right hw
      refine lv_isub hx hb dX4_burn_42 ?_
      exact W.iret hx hb hr (fun t ht hW => ⟨_, rfl, hw, ht⟩) (fun q h => by cases h) dX4_burn_43
    · replace hw := And.right hw c1
      refine lv_iconst (v := 0) hx hb dX4_burn_20 (by decide) ?_
      refine lv_goto (tgt := 43) hx hb dX4_burn_21 (by decide) ?_
      exact W.iret hx hb hr (fun t ht hW => ⟨_, rfl, hw, ht⟩) (fun q h => by cases h) dX4_burn_43
  · replace hw := And.right hw c2
    refine lv_sipush (v := 255) hx hb dX4_burn_7 (by decide) ?_
    exact W.iret hx hb hr (fun t ht hW => ⟨_, rfl, hw, ht⟩) (fun q h => by cases h) dX4_burn_10
abbrev wX4_hard : List Cond := Cond.code yX4_hard cX4_hard 3 (some .int) :: gG
def wp_X4_hard (p0 : Int32) (p1 : Int32) (P : Int32 → Prop) : Prop :=
  ((127 < p1 → ∀ v1 : Int32, v1 = ((2 * p1) - 255) → wp_X4_mul p0 v1 (fun r2 => P ((p0 + v1) - r2))) ∧
  (¬ 127 < p1 → wp_X4_mul p0 (2 * p1) (fun r3 => P r3)))
abbrev rm_X4_hard : Room := { frames := 1, cells := 0, slots := 0, locals := 21 }
set_option maxHeartbeats 4000000 in
set_option maxRecDepth 100000 in
theorem c_X4_hard (l : Launch) (p0 : Int32) (p1 : Int32) (P : Int32 → Prop) (hw : wp_X4_hard p0 p1 P) : Met l yX4_hard wX4_hard rm_X4_hard (xP0 [.int p0, .int p1]) (vp_Si P) 0 0 (fun _ => False) := by
  refine Met.ofW (cc := cX4_hard) (maxL := 3) (ret := (some .int)) (by decide) rfl ?_
  intro p e s m args below meth c s₁ B hml hv
  obtain ⟨hargs, -⟩ := hv
  have hx := B.exec
  have hb := B.bytes
  have hr := B.returns
  have hts := atoms_spec (ws := wX4_hard) B.pre
  have hown : s.vm.findClass RX4 = some m.cls := findClass_of_methodNamed B.named
  have hlocks := B.notSynchronized
  have hl := lv_entry ([.int p0, .int p1]) (n := 3) (Nat.le_of_ble_eq_true rfl)
  rw [show entryFrame m args 3 = entryFrame m (([.int p0, .int p1] : List Value).toArray) 3 from by rw [hargs], lg_entry_eq]
  generalize (lg_sl ([.int p0, .int p1]) ++ List.replicate (3 - (lg_sl ([.int p0, .int p1])).length) Slot.unset).toArray = ls at hl ⊢
  have hl : lv_has ls 3 [(0, .int p0), (1, .int p1)] := hl
  refine lv_iload_n hx hb dX4_hard_0 rfl (lv_at hl 1 rfl) ?_
  refine lv_bipush (v := 127) hx hb dX4_hard_1 (by decide) ?_
  refine lv_icmp_gt (tgt := 14) hx hb dX4_hard_3 (by decide) (fun c4 => ?_) (fun c4 => ?_)
  · replace hw := And.left hw c4
    refine lv_iconst (v := 2) hx hb dX4_hard_14 (by decide) ?_
    refine lv_iload_n hx hb dX4_hard_15 rfl (lv_at hl 1 rfl) ?_
    refine lv_imul hx hb dX4_hard_16 ?_
    refine lv_sipush (v := 255) hx hb dX4_hard_17 (by decide) ?_
    refine lv_isub hx hb dX4_hard_20 ?_
    refine lv_topi (fun v1 e_v1 => ?_)
    replace hw := hw v1 e_v1
    refine lv_istore_n (lv' := [(2, .int v1), (0, .int p0), (1, .int p1)]) hx hb dX4_hard_21 rfl hl (by decide) rfl (fun ls hl => ?_)
    refine lv_iload_n hx hb dX4_hard_22 rfl (lv_at hl 1 rfl) ?_
    refine lv_iload_n hx hb dX4_hard_23 rfl (lv_at hl 0 rfl) ?_
    refine lv_iadd hx hb dX4_hard_24 ?_
    refine lv_iload_n hx hb dX4_hard_25 rfl (lv_at hl 1 rfl) ?_
    refine lv_iload_n hx hb dX4_hard_26 rfl (lv_at hl 0 rfl) ?_
    refine vp_callSi (va_Run.run (va_runS (As := [.int p0, .int v1]) (rest := [.int (p0 + v1)]) ⟨hx, hb, hml, hown, hts⟩ (c_X4_mul l p0 v1 _ hw) (gcS 2 hts m621 m619 m620 m24 rfl rfl (by decide +kernel) ⟨Nat.le_of_ble_eq_true rfl, Nat.le_of_ble_eq_true rfl⟩) ⟨xbl0, fun U hU hW => ⟨rfl, trivial⟩⟩ rfl rfl hl.1 rfl (lv_room (Nat.le_of_ble_eq_true rfl)) dX4_hard_27 ⟨Nat.le_of_ble_eq_true rfl, Nat.le_of_ble_eq_true rfl⟩)) (fun r2 hw => ?_)
    refine lv_isub hx hb dX4_hard_30 ?_
    exact W.iret hx hb hr (fun t ht hW => ⟨_, rfl, hw, ht⟩) (fun q h => by cases h) dX4_hard_31
  · replace hw := And.right hw c4
    refine lv_iload_n hx hb dX4_hard_6 rfl (lv_at hl 0 rfl) ?_
    refine lv_iconst (v := 2) hx hb dX4_hard_7 (by decide) ?_
    refine lv_iload_n hx hb dX4_hard_8 rfl (lv_at hl 1 rfl) ?_
    refine lv_imul hx hb dX4_hard_9 ?_
    refine vp_callSi (va_Run.run (va_runS (As := [.int p0, .int (2 * p1)]) (rest := []) ⟨hx, hb, hml, hown, hts⟩ (c_X4_mul l p0 (2 * p1) _ hw) (gcS 2 hts m621 m619 m620 m24 rfl rfl (by decide +kernel) ⟨Nat.le_of_ble_eq_true rfl, Nat.le_of_ble_eq_true rfl⟩) ⟨xbl0, fun U hU hW => ⟨rfl, trivial⟩⟩ rfl rfl hl.1 rfl (lv_room (Nat.le_of_ble_eq_true rfl)) dX4_hard_10 ⟨Nat.le_of_ble_eq_true rfl, Nat.le_of_ble_eq_true rfl⟩)) (fun r3 hw => ?_)
    exact W.iret hx hb hr (fun t ht hW => ⟨_, rfl, hw, ht⟩) (fun q h => by cases h) dX4_hard_13
abbrev wX4_soft : List Cond := Cond.code yX4_soft cX4_soft 3 (some .int) :: gG
def wp_X4_soft_35 (KX : Int32 → Prop) (x0 : Int32) (x1 : Int32) : Nat → Int32 → Prop
  | 0, _ => False
  | N35 + 1, x2 =>
    (((255 * x0) < ((x2 + 1) * (x2 + 1)) → KX x2) ∧
  (¬ (255 * x0) < ((x2 + 1) * (x2 + 1)) → ∀ v1 : Int32, v1 = x2 + 1 → wp_X4_soft_35 KX x0 x1 N35 v1))
def wp_X4_soft (p0 : Int32) (p1 : Int32) (P : Int32 → Prop) : Prop :=
  ((127 < p1 → (∃ N35, wp_X4_soft_35 (fun (y3 : Int32) => P (p0 + (((((2 * p1) - 255) * (y3 - p0)) + 127) / 255))) p0 p1 N35 0)) ∧
  (¬ 127 < p1 → wp_X4_mul p0 (255 - p0) (fun r4 => P (p0 - ((((255 - (2 * p1)) * r4) + 127) / 255)))))
abbrev rm_X4_soft : Room := { frames := 1, cells := 0, slots := 0, locals := 21 }
set_option maxHeartbeats 4000000 in
set_option maxRecDepth 100000 in
theorem c_X4_soft (l : Launch) (p0 : Int32) (p1 : Int32) (P : Int32 → Prop) (hw : wp_X4_soft p0 p1 P) : Met l yX4_soft wX4_soft rm_X4_soft (xP0 [.int p0, .int p1]) (vp_Si P) 0 0 (fun _ => False) := by
  refine Met.ofW (cc := cX4_soft) (maxL := 3) (ret := (some .int)) (by decide) rfl ?_
  intro p e s m args below meth c s₁ B hml hv
  obtain ⟨hargs, -⟩ := hv
  have hx := B.exec
  have hb := B.bytes
  have hr := B.returns
  have hts := atoms_spec (ws := wX4_soft) B.pre
  have hown : s.vm.findClass RX4 = some m.cls := findClass_of_methodNamed B.named
  have hlocks := B.notSynchronized
  have L35 : ∀ (KX : Int32 → Prop) (x0 : Int32) (x1 : Int32), (∀ (x2 : Int32), KX x2 → ∀ (ls : Array Slot), lv_has ls 3 [(0, .int x0), (1, .int x1), (2, .int x2)] → W p l e (headSpec wX4_soft rm_X4_soft).room s m args below meth c s.heap [] 0 0 (MQ below (vp_Si P) args s 0 0 (fun _ => False)) (F0 m 56 ls [])) → ∀ (N : Nat) (x2 : Int32), wp_X4_soft_35 KX x0 x1 N x2 → ∀ (ls : Array Slot), lv_has ls 3 [(0, .int x0), (1, .int x1), (2, .int x2)] → W p l e (headSpec wX4_soft rm_X4_soft).room s m args below meth c s.heap [] 0 0 (MQ below (vp_Si P) args s 0 0 (fun _ => False)) (F0 m 35 ls []) := by
    intro KX x0 x1 hx2 N35
    induction N35 with
    | zero =>
      intro x2 hw
      exact False.elim hw
    | succ N35 hk =>
      intro x2 hw ls hl
      rw [wp_X4_soft_35] at hw
      refine lv_iload_n hx hb dX4_soft_35 rfl (lv_at hl 2 rfl) ?_
      refine lv_iconst (v := 1) hx hb dX4_soft_36 (by decide) ?_
      refine lv_iadd hx hb dX4_soft_37 ?_
      refine lv_iload_n hx hb dX4_soft_38 rfl (lv_at hl 2 rfl) ?_
      refine lv_iconst (v := 1) hx hb dX4_soft_39 (by decide) ?_
      refine lv_iadd hx hb dX4_soft_40 ?_
      refine lv_imul hx hb dX4_soft_41 ?_
      refine lv_sipush (v := 255) hx hb dX4_soft_42 (by decide) ?_
      refine lv_iload_n hx hb dX4_soft_45 rfl (lv_at hl 0 rfl) ?_
      refine lv_imul hx hb dX4_soft_46 ?_
      refine lv_icmp_gt (tgt := 56) hx hb dX4_soft_47 (by decide) (fun c2 => ?_) (fun c2 => ?_)
      · replace hw := And.left hw c2
        exact hx2 _ hw _ (lv_sub hl [0, 1, 2] rfl)
      · replace hw := And.right hw c2
        obtain ⟨v1, e_v1⟩ : ∃ y : Int32, y = x2 + 1 := ⟨_, rfl⟩
        replace hw := hw v1 e_v1
        refine lv_iinc (v := v1) (lv' := [(2, .int v1), (0, .int x0), (1, .int x1)]) hx hb dX4_soft_50 hl (k := 2) rfl (by rw [e_v1]; rfl) (by decide) rfl (fun ls hl => ?_)
        refine lv_goto (tgt := 35) hx hb dX4_soft_53 (by decide) ?_
        exact hk _ hw _ (lv_sub hl [1, 2, 0] rfl)
  have hl := lv_entry ([.int p0, .int p1]) (n := 3) (Nat.le_of_ble_eq_true rfl)
  rw [show entryFrame m args 3 = entryFrame m (([.int p0, .int p1] : List Value).toArray) 3 from by rw [hargs], lg_entry_eq]
  generalize (lg_sl ([.int p0, .int p1]) ++ List.replicate (3 - (lg_sl ([.int p0, .int p1])).length) Slot.unset).toArray = ls at hl ⊢
  have hl : lv_has ls 3 [(0, .int p0), (1, .int p1)] := hl
  refine lv_iload_n hx hb dX4_soft_0 rfl (lv_at hl 1 rfl) ?_
  refine lv_bipush (v := 127) hx hb dX4_soft_1 (by decide) ?_
  refine lv_icmp_gt (tgt := 33) hx hb dX4_soft_3 (by decide) (fun c5 => ?_) (fun c5 => ?_)
  · replace hw := And.left hw c5
    refine lv_iconst (v := 0) hx hb dX4_soft_33 (by decide) ?_
    refine lv_istore_n (lv' := [(2, .int 0), (0, .int p0), (1, .int p1)]) hx hb dX4_soft_34 rfl hl (by decide) rfl (fun ls hl => ?_)
    obtain ⟨N35, hw⟩ := hw
    refine L35 _ _ _ (fun y3 hw ls hl => ?_) N35 _ hw _ (lv_sub hl [1, 2, 0] rfl)
    refine lv_iload_n hx hb dX4_soft_56 rfl (lv_at hl 0 rfl) ?_
    refine lv_iconst (v := 2) hx hb dX4_soft_57 (by decide) ?_
    refine lv_iload_n hx hb dX4_soft_58 rfl (lv_at hl 1 rfl) ?_
    refine lv_imul hx hb dX4_soft_59 ?_
    refine lv_sipush (v := 255) hx hb dX4_soft_60 (by decide) ?_
    refine lv_isub hx hb dX4_soft_63 ?_
    refine lv_iload_n hx hb dX4_soft_64 rfl (lv_at hl 2 rfl) ?_
    refine lv_iload_n hx hb dX4_soft_65 rfl (lv_at hl 0 rfl) ?_
    refine lv_isub hx hb dX4_soft_66 ?_
    refine lv_imul hx hb dX4_soft_67 ?_
    refine lv_bipush (v := 127) hx hb dX4_soft_68 (by decide) ?_
    refine lv_iadd hx hb dX4_soft_70 ?_
    refine lv_sipush (v := 255) hx hb dX4_soft_71 (by decide) ?_
    refine lv_idiv hx hb dX4_soft_74 (by decide) ?_
    refine lv_iadd hx hb dX4_soft_75 ?_
    exact W.iret hx hb hr (fun t ht hW => ⟨_, rfl, hw, ht⟩) (fun q h => by cases h) dX4_soft_76
  · replace hw := And.right hw c5
    refine lv_iload_n hx hb dX4_soft_6 rfl (lv_at hl 0 rfl) ?_
    refine lv_sipush (v := 255) hx hb dX4_soft_7 (by decide) ?_
    refine lv_iconst (v := 2) hx hb dX4_soft_10 (by decide) ?_
    refine lv_iload_n hx hb dX4_soft_11 rfl (lv_at hl 1 rfl) ?_
    refine lv_imul hx hb dX4_soft_12 ?_
    refine lv_isub hx hb dX4_soft_13 ?_
    refine lv_iload_n hx hb dX4_soft_14 rfl (lv_at hl 0 rfl) ?_
    refine lv_sipush (v := 255) hx hb dX4_soft_15 (by decide) ?_
    refine lv_iload_n hx hb dX4_soft_18 rfl (lv_at hl 0 rfl) ?_
    refine lv_isub hx hb dX4_soft_19 ?_
    refine vp_callSi (va_Run.run (va_runS (As := [.int p0, .int (255 - p0)]) (rest := [.int (255 - (2 * p1)), .int p0]) ⟨hx, hb, hml, hown, hts⟩ (c_X4_mul l p0 (255 - p0) _ hw) (gcS 2 hts m621 m619 m620 m24 rfl rfl (by decide +kernel) ⟨Nat.le_of_ble_eq_true rfl, Nat.le_of_ble_eq_true rfl⟩) ⟨xbl0, fun U hU hW => ⟨rfl, trivial⟩⟩ rfl rfl hl.1 rfl (lv_room (Nat.le_of_ble_eq_true rfl)) dX4_soft_20 ⟨Nat.le_of_ble_eq_true rfl, Nat.le_of_ble_eq_true rfl⟩)) (fun r4 hw => ?_)
    refine lv_imul hx hb dX4_soft_23 ?_
    refine lv_bipush (v := 127) hx hb dX4_soft_24 (by decide) ?_
    refine lv_iadd hx hb dX4_soft_26 ?_
    refine lv_sipush (v := 255) hx hb dX4_soft_27 (by decide) ?_
    refine lv_idiv hx hb dX4_soft_30 (by decide) ?_
    refine lv_isub hx hb dX4_soft_31 ?_
    exact W.iret hx hb hr (fun t ht hW => ⟨_, rfl, hw, ht⟩) (fun q h => by cases h) dX4_soft_32
abbrev wX4_ofBytes : List Cond := Cond.code yX4_ofBytes cX4_ofBytes 4 (some .int) :: gG
def wp_X4_ofBytes (p0 : Int32) (p1 : Int32) (p2 : Int32) (P : Int32 → Prop) : Prop :=
  ((4 ≤ p0 → ((8 ≤ p0 → ((10 ≤ p0 → wp_X4_mul p1 p2 (fun r1 => ∀ v2 : Int32, v2 = ((p1 + p2) - (2 * r1)) → ((¬ p0 = 10 → ((0 ≤ v2 → P v2) ∧
  (¬ 0 ≤ v2 → P 0))) ∧
  (p0 = 10 → ((p1 ≤ p2 → P (p2 - p1)) ∧
  (¬ p1 ≤ p2 → P (p1 - p2))))))) ∧
  (¬ 10 ≤ p0 → ((¬ p0 = 8 → wp_X4_soft p1 p2 (fun r6 => P r6)) ∧
  (p0 = 8 → wp_X4_hard p1 p2 (fun r7 => P r7)))))) ∧
  (¬ 8 ≤ p0 → ((¬ p0 = 4 → ((¬ p0 = 5 → ((¬ p0 = 6 → wp_X4_burn p1 p2 (fun r10 => P r10)) ∧
  (p0 = 6 → wp_X4_dodge p1 p2 (fun r11 => P r11)))) ∧
  (p0 = 5 → ((p1 ≤ p2 → P p2) ∧
  (¬ p1 ≤ p2 → P p1))))) ∧
  (p0 = 4 → ((p2 ≤ p1 → P p2) ∧
  (¬ p2 ≤ p1 → P p1))))))) ∧
  (¬ 4 ≤ p0 → ((¬ p0 = 0 → ((¬ p0 = 1 → ((¬ p0 = 2 → wp_X4_hard p2 p1 (fun r18 => P r18)) ∧
  (p0 = 2 → wp_X4_mul p1 p2 (fun r19 => P ((p1 + p2) - r19))))) ∧
  (p0 = 1 → wp_X4_mul p1 p2 (fun r21 => P r21)))) ∧
  (p0 = 0 → P p2))))
abbrev rm_X4_ofBytes : Room := { frames := 2, cells := 0, slots := 0, locals := 43 }
set_option maxHeartbeats 4000000 in
set_option maxRecDepth 100000 in
theorem c_X4_ofBytes (l : Launch) (p0 : Int32) (p1 : Int32) (p2 : Int32) (P : Int32 → Prop) (hw : wp_X4_ofBytes p0 p1 p2 P) : Met l yX4_ofBytes wX4_ofBytes rm_X4_ofBytes (xP0 [.int p0, .int p1, .int p2]) (vp_Si P) 0 0 (fun _ => False) := by
  refine Met.ofW (cc := cX4_ofBytes) (maxL := 4) (ret := (some .int)) (by decide) rfl ?_
  intro p e s m args below meth c s₁ B hml hv
  obtain ⟨hargs, -⟩ := hv
  have hx := B.exec
  have hb := B.bytes
  have hr := B.returns
  have hts := atoms_spec (ws := wX4_ofBytes) B.pre
  have hown : s.vm.findClass RX4 = some m.cls := findClass_of_methodNamed B.named
  have hlocks := B.notSynchronized
  have hl := lv_entry ([.int p0, .int p1, .int p2]) (n := 4) (Nat.le_of_ble_eq_true rfl)
  rw [show entryFrame m args 4 = entryFrame m (([.int p0, .int p1, .int p2] : List Value).toArray) 4 from by rw [hargs], lg_entry_eq]
  generalize (lg_sl ([.int p0, .int p1, .int p2]) ++ List.replicate (4 - (lg_sl ([.int p0, .int p1, .int p2])).length) Slot.unset).toArray = ls at hl ⊢
  have hl : lv_has ls 4 [(0, .int p0), (1, .int p1), (2, .int p2)] := hl
  refine lv_iload_n hx hb dX4_ofBytes_0 rfl (lv_at hl 0 rfl) ?_
  refine lv_iconst (v := 4) hx hb dX4_ofBytes_1 (by decide) ?_
  refine lv_icmp_ge (tgt := 49) hx hb dX4_ofBytes_2 (by decide) (fun c24 => ?_) (fun c24 => ?_)
  · replace hw := And.left hw c24
    refine lv_iload_n hx hb dX4_ofBytes_49 rfl (lv_at hl 0 rfl) ?_
    refine lv_bipush (v := 8) hx hb dX4_ofBytes_50 (by decide) ?_
    refine lv_icmp_ge (tgt := 111) hx hb dX4_ofBytes_52 (by decide) (fun c17 => ?_) (fun c17 => ?_)
    · replace hw := And.left hw c17
      refine lv_iload_n hx hb dX4_ofBytes_111 rfl (lv_at hl 0 rfl) ?_
      refine lv_bipush (v := 10) hx hb dX4_ofBytes_112 (by decide) ?_
      refine lv_icmp_ge (tgt := 137) hx hb dX4_ofBytes_114 (by decide) (fun c9 => ?_) (fun c9 => ?_)
      · replace hw := And.left hw c9
        refine lv_iload_n hx hb dX4_ofBytes_137 rfl (lv_at hl 1 rfl) ?_
        refine lv_iload_n hx hb dX4_ofBytes_138 rfl (lv_at hl 2 rfl) ?_
        refine lv_iadd hx hb dX4_ofBytes_139 ?_
        refine lv_iconst (v := 2) hx hb dX4_ofBytes_140 (by decide) ?_
        refine lv_iload_n hx hb dX4_ofBytes_141 rfl (lv_at hl 1 rfl) ?_
        refine lv_iload_n hx hb dX4_ofBytes_142 rfl (lv_at hl 2 rfl) ?_
        refine vp_callSi (va_Run.run (va_runS (As := [.int p1, .int p2]) (rest := [.int 2, .int (p1 + p2)]) ⟨hx, hb, hml, hown, hts⟩ (c_X4_mul l p1 p2 _ hw) (gcS 2 hts m621 m619 m620 m24 rfl rfl (by decide +kernel) ⟨Nat.le_of_ble_eq_true rfl, Nat.le_of_ble_eq_true rfl⟩) ⟨xbl0, fun U hU hW => ⟨rfl, trivial⟩⟩ rfl rfl hl.1 rfl (lv_room (Nat.le_of_ble_eq_true rfl)) dX4_ofBytes_143 ⟨Nat.le_of_ble_eq_true rfl, Nat.le_of_ble_eq_true rfl⟩)) (fun r1 hw => ?_)
        refine lv_imul hx hb dX4_ofBytes_146 ?_
        refine lv_isub hx hb dX4_ofBytes_147 ?_
        refine lv_topi (fun v2 e_v2 => ?_)
        replace hw := hw v2 e_v2
        refine lv_istore_n (lv' := [(3, .int v2), (0, .int p0), (1, .int p1), (2, .int p2)]) hx hb dX4_ofBytes_148 rfl hl (by decide) rfl (fun ls hl => ?_)
        refine lv_iload_n hx hb dX4_ofBytes_149 rfl (lv_at hl 1 rfl) ?_
        refine lv_bipush (v := 10) hx hb dX4_ofBytes_150 (by decide) ?_
        refine lv_icmp_ne (tgt := 172) hx hb dX4_ofBytes_152 (by decide) (fun c5 => ?_) (fun c5 => ?_)
        · replace hw := And.left hw c5
          refine lv_iload_n hx hb dX4_ofBytes_172 rfl (lv_at hl 0 rfl) ?_
          refine lv_if_ge (tgt := 180) hx hb dX4_ofBytes_173 (by decide) (fun c3 => ?_) (fun c3 => ?_)
          · replace hw := And.left hw c3
            refine lv_iload_n hx hb dX4_ofBytes_180 rfl (lv_at hl 0 rfl) ?_
            exact W.iret hx hb hr (fun t ht hW => ⟨_, rfl, hw, ht⟩) (fun q h => by cases h) dX4_ofBytes_181
          · replace hw := And.right hw c3
            refine lv_iconst (v := 0) hx hb dX4_ofBytes_176 (by decide) ?_
            refine lv_goto (tgt := 181) hx hb dX4_ofBytes_177 (by decide) ?_
            exact W.iret hx hb hr (fun t ht hW => ⟨_, rfl, hw, ht⟩) (fun q h => by cases h) dX4_ofBytes_181
        · replace hw := And.right hw c5
          refine lv_iload_n hx hb dX4_ofBytes_155 rfl (lv_at hl 2 rfl) ?_
          refine lv_iload_n hx hb dX4_ofBytes_156 rfl (lv_at hl 3 rfl) ?_
          refine lv_icmp_le (tgt := 166) hx hb dX4_ofBytes_157 (by decide) (fun c4 => ?_) (fun c4 => ?_)
          · replace hw := And.left hw c4
            refine lv_iload_n hx hb dX4_ofBytes_166 rfl (lv_at hl 3 rfl) ?_
            refine lv_iload_n hx hb dX4_ofBytes_167 rfl (lv_at hl 2 rfl) ?_
            refine lv_isub hx hb dX4_ofBytes_168 ?_
            refine lv_goto (tgt := 181) hx hb dX4_ofBytes_169 (by decide) ?_
            exact W.iret hx hb hr (fun t ht hW => ⟨_, rfl, hw, ht⟩) (fun q h => by cases h) dX4_ofBytes_181
          · replace hw := And.right hw c4
            refine lv_iload_n hx hb dX4_ofBytes_160 rfl (lv_at hl 2 rfl) ?_
            refine lv_iload_n hx hb dX4_ofBytes_161 rfl (lv_at hl 3 rfl) ?_
            refine lv_isub hx hb dX4_ofBytes_162 ?_
            refine lv_goto (tgt := 181) hx hb dX4_ofBytes_163 (by decide) ?_
            exact W.iret hx hb hr (fun t ht hW => ⟨_, rfl, hw, ht⟩) (fun q h => by cases h) dX4_ofBytes_181
      · replace hw := And.right hw c9
        refine lv_iload_n hx hb dX4_ofBytes_117 rfl (lv_at hl 0 rfl) ?_
        refine lv_bipush (v := 8) hx hb dX4_ofBytes_118 (by decide) ?_
        refine lv_icmp_ne (tgt := 131) hx hb dX4_ofBytes_120 (by decide) (fun c8 => ?_) (fun c8 => ?_)
        · replace hw := And.left hw c8
          refine lv_iload_n hx hb dX4_ofBytes_131 rfl (lv_at hl 1 rfl) ?_
          refine lv_iload_n hx hb dX4_ofBytes_132 rfl (lv_at hl 2 rfl) ?_
          refine vp_callSi (va_Run.run (va_runS (As := [.int p1, .int p2]) (rest := []) ⟨hx, hb, hml, hown, hts⟩ (c_X4_soft l p1 p2 _ hw) (gcS 2 hts m667 m665 m666 m24 rfl rfl (by decide +kernel) ⟨Nat.le_of_ble_eq_true rfl, Nat.le_of_ble_eq_true rfl⟩) ⟨xbl0, fun U hU hW => ⟨rfl, trivial⟩⟩ rfl rfl hl.1 rfl (lv_room (Nat.le_of_ble_eq_true rfl)) dX4_ofBytes_133 ⟨Nat.le_of_ble_eq_true rfl, Nat.le_of_ble_eq_true rfl⟩)) (fun r6 hw => ?_)
          exact W.iret hx hb hr (fun t ht hW => ⟨_, rfl, hw, ht⟩) (fun q h => by cases h) dX4_ofBytes_136
        · replace hw := And.right hw c8
          refine lv_iload_n hx hb dX4_ofBytes_123 rfl (lv_at hl 1 rfl) ?_
          refine lv_iload_n hx hb dX4_ofBytes_124 rfl (lv_at hl 2 rfl) ?_
          refine vp_callSi (va_Run.run (va_runS (As := [.int p1, .int p2]) (rest := []) ⟨hx, hb, hml, hown, hts⟩ (c_X4_hard l p1 p2 _ hw) (gcS 2 hts m658 m656 m657 m24 rfl rfl (by decide +kernel) ⟨Nat.le_of_ble_eq_true rfl, Nat.le_of_ble_eq_true rfl⟩) ⟨xbl0, fun U hU hW => ⟨rfl, trivial⟩⟩ rfl rfl hl.1 rfl (lv_room (Nat.le_of_ble_eq_true rfl)) dX4_ofBytes_125 ⟨Nat.le_of_ble_eq_true rfl, Nat.le_of_ble_eq_true rfl⟩)) (fun r7 hw => ?_)
          refine lv_goto (tgt := 136) hx hb dX4_ofBytes_128 (by decide) ?_
          exact W.iret hx hb hr (fun t ht hW => ⟨_, rfl, hw, ht⟩) (fun q h => by cases h) dX4_ofBytes_136
    · replace hw := And.right hw c17
      refine lv_iload_n hx hb dX4_ofBytes_55 rfl (lv_at hl 0 rfl) ?_
      refine lv_iconst (v := 4) hx hb dX4_ofBytes_56 (by decide) ?_
      refine lv_icmp_ne (tgt := 73) hx hb dX4_ofBytes_57 (by decide) (fun c16 => ?_) (fun c16 => ?_)
      · replace hw := And.left hw c16
        refine lv_iload_n hx hb dX4_ofBytes_73 rfl (lv_at hl 0 rfl) ?_
        refine lv_iconst (v := 5) hx hb dX4_ofBytes_74 (by decide) ?_
        refine lv_icmp_ne (tgt := 91) hx hb dX4_ofBytes_75 (by decide) (fun c14 => ?_) (fun c14 => ?_)
        · replace hw := And.left hw c14
          refine lv_iload_n hx hb dX4_ofBytes_91 rfl (lv_at hl 0 rfl) ?_
          refine lv_bipush (v := 6) hx hb dX4_ofBytes_92 (by decide) ?_
          refine lv_icmp_ne (tgt := 105) hx hb dX4_ofBytes_94 (by decide) (fun c12 => ?_) (fun c12 => ?_)
          · replace hw := And.left hw c12
            refine lv_iload_n hx hb dX4_ofBytes_105 rfl (lv_at hl 1 rfl) ?_
            refine lv_iload_n hx hb dX4_ofBytes_106 rfl (lv_at hl 2 rfl) ?_
            refine vp_callSi (va_Run.run (va_runS (As := [.int p1, .int p2]) (rest := []) ⟨hx, hb, hml, hown, hts⟩ (c_X4_burn l p1 p2 _ hw) (gcS 2 hts m664 m662 m663 m24 rfl rfl (by decide +kernel) ⟨Nat.le_of_ble_eq_true rfl, Nat.le_of_ble_eq_true rfl⟩) ⟨xbl0, fun U hU hW => ⟨rfl, trivial⟩⟩ rfl rfl hl.1 rfl (lv_room (Nat.le_of_ble_eq_true rfl)) dX4_ofBytes_107 ⟨Nat.le_of_ble_eq_true rfl, Nat.le_of_ble_eq_true rfl⟩)) (fun r10 hw => ?_)
            exact W.iret hx hb hr (fun t ht hW => ⟨_, rfl, hw, ht⟩) (fun q h => by cases h) dX4_ofBytes_110
          · replace hw := And.right hw c12
            refine lv_iload_n hx hb dX4_ofBytes_97 rfl (lv_at hl 1 rfl) ?_
            refine lv_iload_n hx hb dX4_ofBytes_98 rfl (lv_at hl 2 rfl) ?_
            refine vp_callSi (va_Run.run (va_runS (As := [.int p1, .int p2]) (rest := []) ⟨hx, hb, hml, hown, hts⟩ (c_X4_dodge l p1 p2 _ hw) (gcS 2 hts m661 m659 m660 m24 rfl rfl (by decide +kernel) ⟨Nat.le_of_ble_eq_true rfl, Nat.le_of_ble_eq_true rfl⟩) ⟨xbl0, fun U hU hW => ⟨rfl, trivial⟩⟩ rfl rfl hl.1 rfl (lv_room (Nat.le_of_ble_eq_true rfl)) dX4_ofBytes_99 ⟨Nat.le_of_ble_eq_true rfl, Nat.le_of_ble_eq_true rfl⟩)) (fun r11 hw => ?_)
            refine lv_goto (tgt := 110) hx hb dX4_ofBytes_102 (by decide) ?_
            exact W.iret hx hb hr (fun t ht hW => ⟨_, rfl, hw, ht⟩) (fun q h => by cases h) dX4_ofBytes_110
        · replace hw := And.right hw c14
          refine lv_iload_n hx hb dX4_ofBytes_78 rfl (lv_at hl 1 rfl) ?_
          refine lv_iload_n hx hb dX4_ofBytes_79 rfl (lv_at hl 2 rfl) ?_
          refine lv_icmp_le (tgt := 87) hx hb dX4_ofBytes_80 (by decide) (fun c13 => ?_) (fun c13 => ?_)
          · replace hw := And.left hw c13
            refine lv_iload_n hx hb dX4_ofBytes_87 rfl (lv_at hl 2 rfl) ?_
            refine lv_goto (tgt := 110) hx hb dX4_ofBytes_88 (by decide) ?_
            exact W.iret hx hb hr (fun t ht hW => ⟨_, rfl, hw, ht⟩) (fun q h => by cases h) dX4_ofBytes_110
          · replace hw := And.right hw c13
            refine lv_iload_n hx hb dX4_ofBytes_83 rfl (lv_at hl 1 rfl) ?_
            refine lv_goto (tgt := 110) hx hb dX4_ofBytes_84 (by decide) ?_
            exact W.iret hx hb hr (fun t ht hW => ⟨_, rfl, hw, ht⟩) (fun q h => by cases h) dX4_ofBytes_110
      · replace hw := And.right hw c16
        refine lv_iload_n hx hb dX4_ofBytes_60 rfl (lv_at hl 1 rfl) ?_
        refine lv_iload_n hx hb dX4_ofBytes_61 rfl (lv_at hl 2 rfl) ?_
        refine lv_icmp_ge (tgt := 69) hx hb dX4_ofBytes_62 (by decide) (fun c15 => ?_) (fun c15 => ?_)
        · replace hw := And.left hw c15
          refine lv_iload_n hx hb dX4_ofBytes_69 rfl (lv_at hl 2 rfl) ?_
          refine lv_goto (tgt := 110) hx hb dX4_ofBytes_70 (by decide) ?_
          exact W.iret hx hb hr (fun t ht hW => ⟨_, rfl, hw, ht⟩) (fun q h => by cases h) dX4_ofBytes_110
        · replace hw := And.right hw c15
          refine lv_iload_n hx hb dX4_ofBytes_65 rfl (lv_at hl 1 rfl) ?_
          refine lv_goto (tgt := 110) hx hb dX4_ofBytes_66 (by decide) ?_
          exact W.iret hx hb hr (fun t ht hW => ⟨_, rfl, hw, ht⟩) (fun q h => by cases h) dX4_ofBytes_110
  · replace hw := And.right hw c24
    refine lv_iload_n hx hb dX4_ofBytes_5 rfl (lv_at hl 0 rfl) ?_
    refine lv_if_ne (tgt := 13) hx hb dX4_ofBytes_6 (by decide) (fun c23 => ?_) (fun c23 => ?_)
    · replace hw := And.left hw c23
      refine lv_iload_n hx hb dX4_ofBytes_13 rfl (lv_at hl 0 rfl) ?_
      refine lv_iconst (v := 1) hx hb dX4_ofBytes_14 (by decide) ?_
      refine lv_icmp_ne (tgt := 26) hx hb dX4_ofBytes_15 (by decide) (fun c22 => ?_) (fun c22 => ?_)
      · replace hw := And.left hw c22
        refine lv_iload_n hx hb dX4_ofBytes_26 rfl (lv_at hl 0 rfl) ?_
        refine lv_iconst (v := 2) hx hb dX4_ofBytes_27 (by decide) ?_
        refine lv_icmp_ne (tgt := 43) hx hb dX4_ofBytes_28 (by decide) (fun c20 => ?_) (fun c20 => ?_)
        · replace hw := And.left hw c20
          refine lv_iload_n hx hb dX4_ofBytes_43 rfl (lv_at hl 2 rfl) ?_
          refine lv_iload_n hx hb dX4_ofBytes_44 rfl (lv_at hl 1 rfl) ?_
          refine vp_callSi (va_Run.run (va_runS (As := [.int p2, .int p1]) (rest := []) ⟨hx, hb, hml, hown, hts⟩ (c_X4_hard l p2 p1 _ hw) (gcS 2 hts m658 m656 m657 m24 rfl rfl (by decide +kernel) ⟨Nat.le_of_ble_eq_true rfl, Nat.le_of_ble_eq_true rfl⟩) ⟨xbl0, fun U hU hW => ⟨rfl, trivial⟩⟩ rfl rfl hl.1 rfl (lv_room (Nat.le_of_ble_eq_true rfl)) dX4_ofBytes_45 ⟨Nat.le_of_ble_eq_true rfl, Nat.le_of_ble_eq_true rfl⟩)) (fun r18 hw => ?_)
          exact W.iret hx hb hr (fun t ht hW => ⟨_, rfl, hw, ht⟩) (fun q h => by cases h) dX4_ofBytes_48
        · replace hw := And.right hw c20
          refine lv_iload_n hx hb dX4_ofBytes_31 rfl (lv_at hl 1 rfl) ?_
          refine lv_iload_n hx hb dX4_ofBytes_32 rfl (lv_at hl 2 rfl) ?_
          refine lv_iadd hx hb dX4_ofBytes_33 ?_
          refine lv_iload_n hx hb dX4_ofBytes_34 rfl (lv_at hl 1 rfl) ?_
          refine lv_iload_n hx hb dX4_ofBytes_35 rfl (lv_at hl 2 rfl) ?_
          refine vp_callSi (va_Run.run (va_runS (As := [.int p1, .int p2]) (rest := [.int (p1 + p2)]) ⟨hx, hb, hml, hown, hts⟩ (c_X4_mul l p1 p2 _ hw) (gcS 2 hts m621 m619 m620 m24 rfl rfl (by decide +kernel) ⟨Nat.le_of_ble_eq_true rfl, Nat.le_of_ble_eq_true rfl⟩) ⟨xbl0, fun U hU hW => ⟨rfl, trivial⟩⟩ rfl rfl hl.1 rfl (lv_room (Nat.le_of_ble_eq_true rfl)) dX4_ofBytes_36 ⟨Nat.le_of_ble_eq_true rfl, Nat.le_of_ble_eq_true rfl⟩)) (fun r19 hw => ?_)
          refine lv_isub hx hb dX4_ofBytes_39 ?_
          refine lv_goto (tgt := 48) hx hb dX4_ofBytes_40 (by decide) ?_
          exact W.iret hx hb hr (fun t ht hW => ⟨_, rfl, hw, ht⟩) (fun q h => by cases h) dX4_ofBytes_48
      · replace hw := And.right hw c22
        refine lv_iload_n hx hb dX4_ofBytes_18 rfl (lv_at hl 1 rfl) ?_
        refine lv_iload_n hx hb dX4_ofBytes_19 rfl (lv_at hl 2 rfl) ?_
        refine vp_callSi (va_Run.run (va_runS (As := [.int p1, .int p2]) (rest := []) ⟨hx, hb, hml, hown, hts⟩ (c_X4_mul l p1 p2 _ hw) (gcS 2 hts m621 m619 m620 m24 rfl rfl (by decide +kernel) ⟨Nat.le_of_ble_eq_true rfl, Nat.le_of_ble_eq_true rfl⟩) ⟨xbl0, fun U hU hW => ⟨rfl, trivial⟩⟩ rfl rfl hl.1 rfl (lv_room (Nat.le_of_ble_eq_true rfl)) dX4_ofBytes_20 ⟨Nat.le_of_ble_eq_true rfl, Nat.le_of_ble_eq_true rfl⟩)) (fun r21 hw => ?_)
        refine lv_goto (tgt := 48) hx hb dX4_ofBytes_23 (by decide) ?_
        exact W.iret hx hb hr (fun t ht hW => ⟨_, rfl, hw, ht⟩) (fun q h => by cases h) dX4_ofBytes_48
    · replace hw := And.right hw c23
      refine lv_iload_n hx hb dX4_ofBytes_9 rfl (lv_at hl 2 rfl) ?_
      refine lv_goto (tgt := 48) hx hb dX4_ofBytes_10 (by decide) ?_
      exact W.iret hx hb hr (fun t ht hW => ⟨_, rfl, hw, ht⟩) (fun q h => by cases h) dX4_ofBytes_48
abbrev wX4_down : List Cond := Cond.code yX4_down cX4_down 3 (some .int) :: gG
def wp_X4_down_28 (P : Int32 → Prop) (x2 : Int32) (s0 : Int32) (s1 : Int32) : Prop :=
  ((s1 = s0 → P x2) ∧
  (¬ s1 = s0 → P (x2 - 1)))
def wp_X4_down_19 (P : Int32 → Prop) (x1 : Int32) (x2 : Int32) (s0 : Int32) : Prop :=
  ((0 ≤ x1 → wp_X4_down_28 P x2 0 s0) ∧
  (¬ 0 ≤ x1 → wp_X4_down_28 P x2 1 s0))
def wp_X4_down (p0 : Int32) (p1 : Int32) (P : Int32 → Prop) : Prop :=
  (¬ p1 = 0 ∧ ∀ v1 : Int32, v1 = (p0 / p1) → (¬ p1 = 0 ∧ (((p0 - p0 / p1 * p1) = 0 → P v1) ∧
  (¬ (p0 - p0 / p1 * p1) = 0 → ((0 ≤ p0 → wp_X4_down_19 P p1 v1 0) ∧
  (¬ 0 ≤ p0 → wp_X4_down_19 P p1 v1 1))))))
abbrev rm_X4_down : Room := { frames := 0, cells := 0, slots := 0, locals := 0 }
set_option maxHeartbeats 4000000 in
set_option maxRecDepth 100000 in
theorem c_X4_down (l : Launch) (p0 : Int32) (p1 : Int32) (P : Int32 → Prop) (hw : wp_X4_down p0 p1 P) : Met l yX4_down wX4_down rm_X4_down (xP0 [.int p0, .int p1]) (vp_Si P) 0 0 (fun _ => False) := by
  refine Met.ofW (cc := cX4_down) (maxL := 3) (ret := (some .int)) (by decide) rfl ?_
  intro p e s m args below meth c s₁ B hml hv
  obtain ⟨hargs, -⟩ := hv
  have hx := B.exec
  have hb := B.bytes
  have hr := B.returns
  have hts := atoms_spec (ws := wX4_down) B.pre
  have hown : s.vm.findClass RX4 = some m.cls := findClass_of_methodNamed B.named
  have hlocks := B.notSynchronized
  have J28 : ∀ (x2 : Int32) (s0 : Int32) (s1 : Int32), wp_X4_down_28 P x2 s0 s1 → ∀ (ls : Array Slot), lv_has ls 3 [(2, .int x2)] → W p l e (headSpec wX4_down rm_X4_down).room s m args below meth c s.heap [] 0 0 (MQ below (vp_Si P) args s 0 0 (fun _ => False)) (F0 m 28 ls [.int s0, .int s1]) := by
    intro  x2 s0 s1 hw ls hl
    refine lv_icmp_eq (tgt := 37) hx hb dX4_down_28 (by decide) (fun c2 => ?_) (fun c2 => ?_)
    · replace hw := And.left hw c2
      refine lv_iload_n hx hb dX4_down_37 rfl (lv_at hl 0 rfl) ?_
      exact W.iret hx hb hr (fun t ht hW => ⟨_, rfl, hw, ht⟩) (fun q h => by cases h) dX4_down_38
    · replace hw := And.right hw c2
      refine lv_iload_n hx hb dX4_down_31 rfl (lv_at hl 0 rfl) ?_
      refine lv_iconst (v := 1) hx hb dX4_down_32 (by decide) ?_
      refine lv_isub hx hb dX4_down_33 ?_
      refine lv_goto (tgt := 38) hx hb dX4_down_34 (by decide) ?_
      exact W.iret hx hb hr (fun t ht hW => ⟨_, rfl, hw, ht⟩) (fun q h => by cases h) dX4_down_38
  have J19 : ∀ (x1 : Int32) (x2 : Int32) (s0 : Int32), wp_X4_down_19 P x1 x2 s0 → ∀ (ls : Array Slot), lv_has ls 3 [(1, .int x1), (2, .int x2)] → W p l e (headSpec wX4_down rm_X4_down).room s m args below meth c s.heap [] 0 0 (MQ below (vp_Si P) args s 0 0 (fun _ => False)) (F0 m 19 ls [.int s0]) := by
    intro  x1 x2 s0 hw ls hl
    refine lv_iload_n hx hb dX4_down_19 rfl (lv_at hl 0 rfl) ?_
    refine lv_if_ge (tgt := 27) hx hb dX4_down_20 (by decide) (fun c3 => ?_) (fun c3 => ?_)
    · replace hw := And.left hw c3
      refine lv_iconst (v := 0) hx hb dX4_down_27 (by decide) ?_
      exact J28 _ _ _ hw _ (lv_sub hl [1] rfl)
    · replace hw := And.right hw c3
      refine lv_iconst (v := 1) hx hb dX4_down_23 (by decide) ?_
      refine lv_goto (tgt := 28) hx hb dX4_down_24 (by decide) ?_
      exact J28 _ _ _ hw _ (lv_sub hl [1] rfl)
  have hl := lv_entry ([.int p0, .int p1]) (n := 3) (Nat.le_of_ble_eq_true rfl)
  rw [show entryFrame m args 3 = entryFrame m (([.int p0, .int p1] : List Value).toArray) 3 from by rw [hargs], lg_entry_eq]
  generalize (lg_sl ([.int p0, .int p1]) ++ List.replicate (3 - (lg_sl ([.int p0, .int p1])).length) Slot.unset).toArray = ls at hl ⊢
  have hl : lv_has ls 3 [(0, .int p0), (1, .int p1)] := hl
  refine lv_iload_n hx hb dX4_down_0 rfl (lv_at hl 0 rfl) ?_
  refine lv_iload_n hx hb dX4_down_1 rfl (lv_at hl 1 rfl) ?_
  refine lv_idiv hx hb dX4_down_2 (And.left hw) ?_
  replace hw := And.right hw
  refine lv_topi (fun v1 e_v1 => ?_)
  replace hw := hw v1 e_v1
  refine lv_istore_n (lv' := [(2, .int v1), (0, .int p0), (1, .int p1)]) hx hb dX4_down_3 rfl hl (by decide) rfl (fun ls hl => ?_)
  refine lv_iload_n hx hb dX4_down_4 rfl (lv_at hl 1 rfl) ?_
  refine lv_iload_n hx hb dX4_down_5 rfl (lv_at hl 2 rfl) ?_
  refine lv_irem hx hb dX4_down_6 (And.left hw) ?_
  replace hw := And.right hw
  refine lv_if_eq (tgt := 37) hx hb dX4_down_7 (by decide) (fun c5 => ?_) (fun c5 => ?_)
  · replace hw := And.left hw c5
    refine lv_iload_n hx hb dX4_down_37 rfl (lv_at hl 0 rfl) ?_
    exact W.iret hx hb hr (fun t ht hW => ⟨_, rfl, hw, ht⟩) (fun q h => by cases h) dX4_down_38
  · replace hw := And.right hw c5
    refine lv_iload_n hx hb dX4_down_10 rfl (lv_at hl 1 rfl) ?_
    refine lv_if_ge (tgt := 18) hx hb dX4_down_11 (by decide) (fun c4 => ?_) (fun c4 => ?_)
    · replace hw := And.left hw c4
      refine lv_iconst (v := 0) hx hb dX4_down_18 (by decide) ?_
      exact J19 _ _ _ hw _ (lv_sub hl [2, 0] rfl)
    · replace hw := And.right hw c4
      refine lv_iconst (v := 1) hx hb dX4_down_14 (by decide) ?_
      refine lv_goto (tgt := 19) hx hb dX4_down_15 (by decide) ?_
      exact J19 _ _ _ hw _ (lv_sub hl [2, 0] rfl)
end
