section
-- ===== PART A: goes FIRST, ahead of the names: the tables' words, and 'selects' of the private methods out of them =====
/-- a private method of a class that the tables say can be made, by its rows of tables_1 -/
def lw_okq (q : MethodName × Nat) : Prop := (q.1.cls ≠ "java/lang/invoke/MethodHandle" ∧ q.1.cls ≠ "java/lang/invoke/VarHandle") ∧ Cond.instantiable q.1.cls q.2 ∈ tables_1 ∧ Cond.privateMethod q.1 ∈ tables_1 ∧ Cond.instanceMethod q.1 ∈ tables_1
theorem lw_p0 : lw_okq (⟨"java/lang/NullPointerException", "getExtendedNPEMessage", "()Ljava/lang/String;"⟩, 8) := ⟨⟨by decide +kernel, by decide +kernel⟩, List.mem_of_getElem? (i := 126) (by decide +kernel), List.mem_of_getElem? (i := 124) (by decide +kernel), List.mem_of_getElem? (i := 125) (by decide +kernel)⟩
theorem lw_p1 : lw_okq (⟨"java/lang/Throwable", "fillInStackTrace", "(I)Ljava/lang/Throwable;"⟩, 6) := ⟨⟨by decide +kernel, by decide +kernel⟩, List.mem_of_getElem? (i := 139) (by decide +kernel), List.mem_of_getElem? (i := 137) (by decide +kernel), List.mem_of_getElem? (i := 138) (by decide +kernel)⟩
theorem lw_p2 : lw_okq (⟨"UnwindRig", "doLevel", "(III)J"⟩, 4) := ⟨⟨by decide +kernel, by decide +kernel⟩, List.mem_of_getElem? (i := 17) (by decide +kernel), List.mem_of_getElem? (i := 252) (by decide +kernel), List.mem_of_getElem? (i := 253) (by decide +kernel)⟩
theorem lw_p3 : lw_okq (⟨"UnwindRig", "goDown", "(III)J"⟩, 4) := ⟨⟨by decide +kernel, by decide +kernel⟩, List.mem_of_getElem? (i := 17) (by decide +kernel), List.mem_of_getElem? (i := 260) (by decide +kernel), List.mem_of_getElem? (i := 261) (by decide +kernel)⟩
theorem lw_p4 : lw_okq (⟨"UnwindRig", "reachBottom", "(II)J"⟩, 4) := ⟨⟨by decide +kernel, by decide +kernel⟩, List.mem_of_getElem? (i := 17) (by decide +kernel), List.mem_of_getElem? (i := 264) (by decide +kernel), List.mem_of_getElem? (i := 265) (by decide +kernel)⟩
theorem lw_p5 : lw_okq (⟨"UnwindRig", "throwNew", "(II)J"⟩, 4) := ⟨⟨by decide +kernel, by decide +kernel⟩, List.mem_of_getElem? (i := 17) (by decide +kernel), List.mem_of_getElem? (i := 268) (by decide +kernel), List.mem_of_getElem? (i := 269) (by decide +kernel)⟩
theorem lw_p6 : lw_okq (⟨"UnwindRig", "throwFromWithin", "(I)J"⟩, 4) := ⟨⟨by decide +kernel, by decide +kernel⟩, List.mem_of_getElem? (i := 17) (by decide +kernel), List.mem_of_getElem? (i := 277) (by decide +kernel), List.mem_of_getElem? (i := 278) (by decide +kernel)⟩
theorem lw_p7 : lw_okq (⟨"UnwindRig", "doThen", "(I)J"⟩, 4) := ⟨⟨by decide +kernel, by decide +kernel⟩, List.mem_of_getElem? (i := 17) (by decide +kernel), List.mem_of_getElem? (i := 289) (by decide +kernel), List.mem_of_getElem? (i := 290) (by decide +kernel)⟩
theorem lw_p8 : lw_okq (⟨"UnwindRig", "doLast", "(IJ)J"⟩, 4) := ⟨⟨by decide +kernel, by decide +kernel⟩, List.mem_of_getElem? (i := 17) (by decide +kernel), List.mem_of_getElem? (i := 293) (by decide +kernel), List.mem_of_getElem? (i := 294) (by decide +kernel)⟩
def lw_privs_1 : List (MethodName × Nat) := [(⟨"java/lang/NullPointerException", "getExtendedNPEMessage", "()Ljava/lang/String;"⟩, 8), (⟨"java/lang/Throwable", "fillInStackTrace", "(I)Ljava/lang/Throwable;"⟩, 6), (⟨"UnwindRig", "doLevel", "(III)J"⟩, 4), (⟨"UnwindRig", "goDown", "(III)J"⟩, 4), (⟨"UnwindRig", "reachBottom", "(II)J"⟩, 4), (⟨"UnwindRig", "throwNew", "(II)J"⟩, 4), (⟨"UnwindRig", "throwFromWithin", "(I)J"⟩, 4), (⟨"UnwindRig", "doThen", "(I)J"⟩, 4), (⟨"UnwindRig", "doLast", "(IJ)J"⟩, 4)]
theorem lw_r1 : ∀ q ∈ lw_privs_1, lw_okq q := List.forall_mem_cons.mpr ⟨lw_p0, List.forall_mem_cons.mpr ⟨lw_p1, List.forall_mem_cons.mpr ⟨lw_p2, List.forall_mem_cons.mpr ⟨lw_p3, List.forall_mem_cons.mpr ⟨lw_p4, List.forall_mem_cons.mpr ⟨lw_p5, List.forall_mem_cons.mpr ⟨lw_p6, List.forall_mem_cons.mpr ⟨lw_p7, List.forall_mem_cons.mpr ⟨lw_p8, fun _ h => absurd h List.not_mem_nil⟩⟩⟩⟩⟩⟩⟩⟩⟩
def lw_privs : List (MethodName × Nat) := lw_privs_1
def lw_tbl : List Cond := k2_sels lw_privs ++ tables_1
theorem lw_privs_ok : ∀ q ∈ lw_privs, lw_okq q := lw_r1
end
section
/-! ===== BEGIN words of one list among another's, by their places ===== -/
theorem goodIn_r {big : List Cond} (ws : List Cond) (ps : List Nat) (hp : ws = ps.filterMap (fun i => big[i]?)) (h : ws.all goodWord = true) : GoodIn big ws := by
  intro w hw
  have h1 := List.all_eq_true.mp h w hw
  rw [hp] at hw
  obtain ⟨i, -, hi⟩ := List.mem_filterMap.mp hw
  have hm : w ∈ big := by first | exact List.mem_of_getElem? hi | exact List.getElem?_mem hi
  exact ⟨hm, good_of_word h1⟩
theorem goodIn_app {big a b : List Cond} (ha : GoodIn big a) (hb : GoodIn big b) : GoodIn big (a ++ b) := fun w h => (List.mem_append.mp h).elim (ha w) (hb w)
theorem goodIn_ca {big a b : List Cond} {c : Cond} (ha : GoodIn big (c :: a)) (hb : GoodIn big b) : GoodIn big (c :: (a ++ b)) := fun w h => (List.mem_cons.mp h).elim (fun e => ha w (List.mem_cons.mpr (Or.inl e))) (fun h => (List.mem_append.mp h).elim (fun h => ha w (List.mem_cons.mpr (Or.inr h))) (hb w))
theorem goodIn_sub {big ws : List Cond} (hm : ∀ w ∈ ws, w ∈ big) (h : ws.all goodWord = true) : GoodIn big ws := fun w hw => ⟨hm w hw, good_of_word (List.all_eq_true.mp h w hw)⟩
/-! ===== END ===== -/

/-! ===== BEGIN exceptions that leave a method, and their catching by the caller (launches without stack traces) ===== -/
section VXA
/-! The laws vx_back, vx_callV, vx_callS, vx_callSW, vx_throw0, vx_throwS follow proofs of the library, with one case more: JvmDerived/Free/Laws.lean (Back.of_free), Shelf42/LK1.lean (callV, callS), Shelf/KitTraced.lean (throwNew0V, throwNewS). -/
/-- where a method has thrown q: the class by its name, the cell, what was written, the world -/
def vx_T (XC : String → State → State → Prop) (st : State) (q : Addr) (t : State) (mc ms : Nat) (free : Addr → Prop) : Prop :=
  ∃ (E : String) (ce : Cell) (L : List Loc), XC E st t ∧ t.heap[q]? = some ce ∧ ce.vm = .none ∧ st.vm.findClass E = some ce.cls ∧ st.WarmedH t.vm ∧ st.sameButNew ({ t with vm := st.vm } : State) L mc ms ∧ ∀ z ∈ L, free z.base
def vx_Q (Qc : Array Value → State → Outcome → State → Prop) (XC : String → State → State → Prop) (mc ms : Nat) (free : Addr → Prop) : Array Value → State → Outcome → State → Prop := fun a st o t =>
  (Qc a st o t ∧ ∃ L, FrameEnd st o t L mc ms ∧ ∀ q ∈ L, free q.base) ∨ ∃ q, o = .threw q ∧ vx_T XC st q t mc ms free
/-- a callee that returns or throws -/
def vx_Met (l : Launch) (y : MethodName) (ws : List Cond) (rm : Room) (Pc : Array Value → State → Prop) (Qc : Array Value → State → Outcome → State → Prop) (XC : String → State → State → Prop) (mc ms : Nat) (free : Addr → Prop) : Prop :=
  MetFree l y (headSpec ws rm) Pc (fun _ _ _ _ _ => True) (vx_Q Qc XC mc ms free)
def vx_Post (XC : String → State → State → Prop) (mc ms : Nat) (free : Addr → Prop) : Pt → Array Value → Addr → Pt → Prop := fun A a q B =>
  ∃ (g : JFrame) (mk : MethodId) (t : State) (L : List Loc) (E : String) (ce : Cell), B.U.heap = t.heap ∧ B.U.vm = t.vm ∧ XC E (A.U.calling g mk a) t ∧ t.heap[q]? = some ce ∧ ce.vm = .none ∧ A.U.vm.findClass E = some ce.cls ∧ B.locs = A.locs ++ L ∧ (∀ z ∈ L, free z.base) ∧ B.cells = A.cells + mc ∧ B.slots = A.slots + ms
def vx_Back (l : Launch) (R : Room) (p : Program) (e : Env) (below : List Frame) (s : State) (sargs : Array Value) (y : MethodName) (len W9 : Nat)
    (Pre : Pt → Array Value → Prop) (Post : Pt → Array Value → Option Value → Pt → Prop) (PostX : Pt → Array Value → Addr → Pt → Prop) : Prop :=
  ∀ (m : MethodId) (meth : Method) (c : Code) (A : Pt) (g : JFrame) (ig : Instr) (mk : MethodId) (a : Array Value),
    Stand p l e R s m sargs below meth c A.U A.locs A.cells A.slots → g.method = m → g.locals.size = c.maxLocals → decode c.code g.pc = .ok (ig, len) →
    2 * g.monitorRoom + (g.stack.map fun v => v.category).sum ≤ W9 → A.U.methodNamed? y = some mk → Pre A a →
    (∃ (v : Option Value) (B : Pt), Stand p l e R s m sargs below meth c B.U B.locs B.cells B.slots ∧ Post A a v B ∧
      Steps p.tables e below (doInvoke e (A.U.setTop g) [] mk a).1 (B.U.setTop { g with pc := g.pc + len, stack := v.toList ++ g.stack })) ∨
    (∃ (q : Addr) (B : Pt), Stand p l e R s m sargs below meth c B.U B.locs B.cells B.slots ∧ PostX A a q B ∧
      Steps p.tables e below (doInvoke e (A.U.setTop g) [] mk a).1 ((B.U.setTop g).pushFrame (.throwing q)))
section Payer
variable {l : Launch} {R : Room} {p : Program} {e : Env} {below : List Frame} {s : State} {sargs : Array Value} {y : MethodName} {len W9 : Nat}
theorem vx_back {ws : List Cond} {rm : Room} {Pc : Array Value → State → Prop} {Qc : Array Value → State → Outcome → State → Prop} {XC : String → State → State → Prop} {mc ms : Nat} {free : Addr → Prop} {bytes : ByteArray} {maxL : Nat} {ret : Option FieldType}
    (hM : vx_Met l y ws rm Pc Qc XC mc ms free) (hblind : FrameBlind Pc) (hrc : rm.cells = mc) (hrs : rm.slots = ms)
    (hframes : rm.frames + 1 ≤ R.frames) (hlocals : W9 + (maxL + 11) + rm.locals ≤ R.locals)
    (hws : ∀ w ∈ ws, ∀ a' U, s.WarmedH U.vm → w.before a' U = true) (hcode : Cond.code y bytes maxL ret ∈ ws) (hinit : ∀ a' U, s.WarmedH U.vm → (Cond.initialized y.cls).before a' U = true) :
    vx_Back l R p e below s sargs y len W9 (PreOf R mc ms Pc) (PostOf Qc mc ms free) (vx_Post XC mc ms free) := by
  intro m meth c A g ig mk a X hg hsize hdg hW hn hp
  have h1 : (headSpec ws rm).pre.before a A.U = true := atoms_intro fun w hw => hws w hw _ _ X.warmed
  have h2 : (Cond.code y bytes maxL ret).before a A.U = true := hws _ hcode _ _ X.warmed
  have h3 : (Cond.initialized y.cls).before a A.U = true := hinit _ _ X.warmed
  have h4 : A.cells + (headSpec ws rm).room.cells ≤ R.cells := by rw [show (headSpec ws rm).room.cells = mc from hrc]; exact hp.1
  have h5 : A.slots + (headSpec ws rm).room.slots ≤ R.slots := by rw [show (headSpec ws rm).room.slots = ms from hrs]; exact hp.2.1
  have hPc : Pc a (A.U.calling g mk a) := hblind _ _ _ _ hp.2.2
  obtain ⟨U, Ls, c0, s0⟩ := A
  dsimp only [Pt.U, Pt.locs, Pt.cells, Pt.slots] at h1 h2 h3 h4 h5 X hn hPc ⊢
  obtain ⟨methY, cY, hmY, hcY, -, hlY, -, -, -, -⟩ := Cond.code_spec hn h2
  obtain ⟨kY, hkY, -⟩ := className_of_methodNamed hn
  have hinitY : kY.init = .initialized := Cond.initialized_spec (findClass_of_methodNamed hn) hkY h3
  have h : At U g.method c below := by rw [hg]; exact X.here
  have hlocals9 : W9 + (maxL + 11) + (headSpec ws rm).room.locals ≤ R.locals := hlocals
  have happ : (headSpec ws rm).appliesLoose y e.platform (U.calling g mk a) = true :=
    Spec.appliesLoose_calling (g := g) h hdg hn hkY hinitY
      (X.room_calling (g := g) (R' := (headSpec ws rm).room) hsize hmY hcY hframes (by rw [hlY]; omega) h4 h5) h1
  obtain ⟨mid, hmid⟩ := h.above
  have hfr : (U.setTop g).frames = (.java g :: mid) ++ below := by rw [State.frames_setTop' g h.top, hmid]; rfl
  obtain ⟨o, s₂, hsteps, -, hend, hq⟩ := Steps.callFree hM p X.admits X.cas X.clock (acts := []) hfr happ hPc trivial
  have hq' : vx_Q Qc XC mc ms free a (U.calling g mk a) o s₂ := hq
  rw [State.frames_setTop' g h.top] at hend
  obtain ⟨g₀, hg0⟩ := Option.isSome_iff_exists.mp h.top
  obtain ⟨r, hr⟩ := State.topJava?_eq_some.mp hg0
  have hr' : (({ U with heap := s₂.heap, slotsUsed := s₂.slotsUsed } : State).setVm s₂.vm).frames = .java g₀ :: r := hr
  rcases hq' with ⟨hqc, L, hfe, hL⟩ | ⟨q, rfl, E, ce, L, hx, hce, hcv, hcl, hW₂, hsm, hL⟩
  · obtain ⟨⟨v, rfl⟩, hW₂, e2, q2, q3, q4, q5, q6⟩ := id hfe
    have e3 : s₂ = ({ (U.calling g mk a).setFrames s₂.frames with heap := s₂.heap, slotsUsed := s₂.slotsUsed } : State).setVm s₂.vm := by
      have : s₂ = ({ s₂ with vm := (U.calling g mk a).vm } : State).setVm s₂.vm := rfl
      rw [e2] at this
      exact this
    obtain ⟨c₂, i₂, len₂, hc₂, hd₂, hf₂⟩ := hend
    have hW' : U.WarmedH s₂.vm := hW₂
    have hcc : c₂ = c := by
      have h1 : s₂.code? g.method = U.code? g.method := by
        rw [State.code?_eq, State.code?_eq, hW'.alike.method?]
      exact Option.some.inj (hc₂.symm.trans (h1.trans h.code))
    subst hcc
    have hlen : len₂ = len := by rw [hdg] at hd₂; cases hd₂; rfl
    subst hlen
    have hs₂ : s₂ = (({ U with heap := s₂.heap, slotsUsed := s₂.slotsUsed } : State).setVm s₂.vm).setTop { g with pc := g.pc + len₂, stack := v.toList ++ g.stack } := by
      refine e3.trans ?_
      rw [hf₂, State.calling_eq h.top, State.setFrames_setFrames, State.setTop_of_frames _ hr', hr]
      rfl
    have hsame : U.sameButNew ({ U with heap := s₂.heap, slotsUsed := s₂.slotsUsed } : State) L mc ms := by
      refine ⟨?_, q2, q3, q4, q5, q6⟩
      obtain ⟨t, ht, -⟩ := State.frames_cons hr
      show ({ U with heap := s₂.heap, slotsUsed := s₂.slotsUsed } : State) = { U.setFrames U.frames with heap := s₂.heap, slotsUsed := s₂.slotsUsed }
      rw [State.setFrames_self ht]
    subst hg
    refine Or.inl ⟨v, ⟨(({ U with heap := s₂.heap, slotsUsed := s₂.slotsUsed } : State).setVm s₂.vm), Ls ++ L, c0 + mc, s0 + ms⟩,
      ⟨X.admits, X.cas, X.clock, X.frames, X.room, X.hears, X.method, X.code, (X.here.setHeapUsed s₂.heap s₂.slotsUsed).setVm hW'.alike, X.tail, State.WarmedH.trans X.warmed hW', X.limits, X.bytes, X.same.trans (hsame.setVm s.vm)⟩,
      ⟨g, mk, s₂, L, rfl, rfl, hqc, rfl, hL, rfl, rfl⟩, ?_⟩
    show Steps p.tables e below _ ((({ U with heap := s₂.heap, slotsUsed := s₂.slotsUsed } : State).setVm s₂.vm).setTop { g with pc := g.pc + len₂, stack := v.toList ++ g.stack })
    rw [← hs₂]
    exact hsteps
  · obtain ⟨e2, q2, q3, q4, q5, q6⟩ := id hsm
    have e3 : s₂ = ({ (U.calling g mk a).setFrames s₂.frames with heap := s₂.heap, slotsUsed := s₂.slotsUsed } : State).setVm s₂.vm := by
      have : s₂ = ({ s₂ with vm := (U.calling g mk a).vm } : State).setVm s₂.vm := rfl
      rw [e2] at this
      exact this
    have hf₂ : s₂.frames = .throwing q :: .java g :: U.frames.tail := hend
    have hW' : U.WarmedH s₂.vm := hW₂
    have hs₂ : s₂ = ((({ U with heap := s₂.heap, slotsUsed := s₂.slotsUsed } : State).setVm s₂.vm).setTop g).pushFrame (.throwing q) := by
      refine e3.trans ?_
      rw [hf₂, State.calling_eq h.top, State.setFrames_setFrames, State.pushFrame, State.frames_setTop _ hr', State.setTop_of_frames _ hr', State.setFrames_setFrames, hr]
      rfl
    have hsame : U.sameButNew ({ U with heap := s₂.heap, slotsUsed := s₂.slotsUsed } : State) L mc ms := by
      refine ⟨?_, q2, q3, q4, q5, q6⟩
      obtain ⟨t, ht, -⟩ := State.frames_cons hr
      show ({ U with heap := s₂.heap, slotsUsed := s₂.slotsUsed } : State) = { U.setFrames U.frames with heap := s₂.heap, slotsUsed := s₂.slotsUsed }
      rw [State.setFrames_self ht]
    subst hg
    refine Or.inr ⟨q, ⟨(({ U with heap := s₂.heap, slotsUsed := s₂.slotsUsed } : State).setVm s₂.vm), Ls ++ L, c0 + mc, s0 + ms⟩,
      ⟨X.admits, X.cas, X.clock, X.frames, X.room, X.hears, X.method, X.code, (X.here.setHeapUsed s₂.heap s₂.slotsUsed).setVm hW'.alike, X.tail, State.WarmedH.trans X.warmed hW', X.limits, X.bytes, X.same.trans (hsame.setVm s.vm)⟩,
      ⟨g, mk, s₂, L, E, ce, rfl, rfl, hx, hce, hcv, hcl, rfl, hL, rfl, rfl⟩, ?_⟩
    show Steps p.tables e below _ (((({ U with heap := s₂.heap, slotsUsed := s₂.slotsUsed } : State).setVm s₂.vm).setTop g).pushFrame (.throwing q))
    rw [← hs₂]
    exact hsteps
end Payer
section Calls
variable {p : Program} {l : Launch} {e : Env} {R : Room} {s : State} {m : MethodId} {args : Array Value} {below : List Frame} {meth : Method} {c : Code} {T : State} {locs : List Loc} {cells slots : Nat}
theorem vx_callV (X : Stand p l e R s m args below meth c T locs cells slots) (hexec : p.tables.exec = Jvm.exec) {own C : String} {index : Nat} {y : MethodName} {bytes : ByteArray} {maxL : Nat} {ret : Option FieldType}
    (hown : s.vm.findClass own = some m.cls) (hlink : (Cond.methodLink own index y).before args s = true) (hinst : (Cond.instanceMethod y).before args s = true) (hsel : (Cond.selects C y y).before args s = true)
    (hcode : (Cond.code y bytes maxL ret).before args s = true) (hy : y.cls ≠ "java/lang/invoke/MethodHandle" ∧ y.cls ≠ "java/lang/invoke/VarHandle")
    {W9 : Nat} {Pre : Pt → Array Value → Prop} {Post : Pt → Array Value → Option Value → Pt → Prop} {PostX : Pt → Array Value → Addr → Pt → Prop} (hK : vx_Back l R p e below s args y 3 W9 Pre Post PostX)
    {b : Addr} {cellB : Cell} (hcell : T.heap[b]? = some cellB) (hobj : cellB.vm.isStatics = false) (hcls : s.vm.findClass C = some cellB.cls)
    {g : JFrame} (hg : g.method = m) (hsize : g.locals.size = c.maxLocals) {argsL rest : List Value} (hlen : ∀ sig, parseMethodDescriptor y.desc = some sig → argsL.length = sig.parameters.length)
    (hstack : g.stack = argsL.reverse ++ .ref b :: rest) (hW : 2 * g.monitorRoom + (rest.map fun v => v.category).sum ≤ W9) (hdg : decode c.code g.pc = .ok (.invokevirtual index, 3))
    (hpre : ∀ vm₁, s.WarmedH vm₁ → Pre ⟨T.setVm vm₁, locs, cells, slots⟩ (Value.ref b :: argsL).toArray) :
    (∃ (v : Option Value) (vm₁ : Vm) (B : Pt), s.WarmedH vm₁ ∧ Stand p l e R s m args below meth c B.U B.locs B.cells B.slots ∧ Post ⟨T.setVm vm₁, locs, cells, slots⟩ (Value.ref b :: argsL).toArray v B ∧
      ∀ target, Steps p.tables e below (B.U.setTop { g with pc := g.pc + 3, stack := v.toList ++ rest }) target → Steps p.tables e below (T.setTop g) target) ∨
    (∃ (q : Addr) (vm₁ : Vm) (B : Pt), s.WarmedH vm₁ ∧ Stand p l e R s m args below meth c B.U B.locs B.cells B.slots ∧ PostX ⟨T.setVm vm₁, locs, cells, slots⟩ (Value.ref b :: argsL).toArray q B ∧
      Steps p.tables e below (T.setTop g) ((B.U.setTop { g with stack := rest }).pushFrame (.throwing q))) := by
  obtain ⟨mk, methM, hnamed, hmethM, hstM, habM⟩ := Cond.instanceMethod_spec hinst
  obtain ⟨methM', cM, hmethM', -, -, -, -, -, -, hsigM⟩ := Cond.code_spec hnamed hcode
  cases hmethM.symm.trans hmethM'
  obtain ⟨c2, r2, m2, q1, q2, q3, q4, kP, hkP, hkPi⟩ := Cond.selects_spec hsel
  cases hcls.symm.trans q1
  cases (State.methodFound?_of_named hnamed hy).symm.trans q2
  cases hnamed.symm.trans q3
  have hselP : selectMethod e.platform s.vm cellB.cls mk = .method mk := by rw [Launch.admits_selectMethod X.admits]; exact q4
  obtain ⟨vm₁, X₁, hstep₁⟩ := X.invokevirtual hexec hown hlink hnamed hmethM hstM hkP hkPi hy (a := b) (cell := cellB) hcell
    (fun z h => by rw [h] at hobj; cases hobj) hselP hmethM habM hkP hkPi (g := g) hg (argsL := argsL) (rest := rest) (hlen _ hsigM) hstack hdg
  rcases hK m meth c ⟨T.setVm vm₁, locs, cells, slots⟩ { g with stack := rest } (.invokevirtual index) mk (Value.ref b :: argsL).toArray X₁ hg hsize hdg hW (X₁.named hnamed) (hpre vm₁ X₁.warmed) with ⟨v, B, X', hpost, hsteps⟩ | ⟨q, B, X', hpost, hsteps⟩
  · exact Or.inl ⟨v, vm₁, B, X₁.warmed, X', hpost, fun target h => hstep₁ _ fun acts => by rw [doInvoke_state]; exact hsteps.trans h⟩
  · exact Or.inr ⟨q, vm₁, B, X₁.warmed, X', hpost, hstep₁ _ fun acts => by rw [doInvoke_state]; exact hsteps⟩
theorem vx_callS (X : Stand p l e R s m args below meth c T locs cells slots) (hexec : p.tables.exec = Jvm.exec) {own : String} {index : Nat} {y : MethodName} {bytes : ByteArray} {maxL : Nat} {ret : Option FieldType}
    (hown : s.vm.findClass own = some m.cls) (hlink : (Cond.methodLink own index y).before args s = true) (hstat : (Cond.static y).before args s = true) (hinit : (Cond.initialized y.cls).before args s = true)
    (hcode : (Cond.code y bytes maxL ret).before args s = true) (hy : y.cls ≠ "java/lang/invoke/MethodHandle" ∧ y.cls ≠ "java/lang/invoke/VarHandle")
    {W9 : Nat} {Pre : Pt → Array Value → Prop} {Post : Pt → Array Value → Option Value → Pt → Prop} {PostX : Pt → Array Value → Addr → Pt → Prop} (hK : vx_Back l R p e below s args y 3 W9 Pre Post PostX)
    {g : JFrame} (hg : g.method = m) (hsize : g.locals.size = c.maxLocals) {argsL rest : List Value} (hlen : ∀ sig, parseMethodDescriptor y.desc = some sig → argsL.length = sig.parameters.length)
    (hstack : g.stack = argsL.reverse ++ rest) (hW : 2 * g.monitorRoom + (rest.map fun v => v.category).sum ≤ W9) (hdg : decode c.code g.pc = .ok (.invokestatic index, 3))
    (hpre : ∀ vm₁, s.WarmedH vm₁ → Pre ⟨T.setVm vm₁, locs, cells, slots⟩ argsL.toArray) :
    (∃ (v : Option Value) (vm₁ : Vm) (B : Pt), s.WarmedH vm₁ ∧ Stand p l e R s m args below meth c B.U B.locs B.cells B.slots ∧ Post ⟨T.setVm vm₁, locs, cells, slots⟩ argsL.toArray v B ∧
      ∀ target, Steps p.tables e below (B.U.setTop { g with pc := g.pc + 3, stack := v.toList ++ rest }) target → Steps p.tables e below (T.setTop g) target) ∨
    (∃ (q : Addr) (vm₁ : Vm) (B : Pt), s.WarmedH vm₁ ∧ Stand p l e R s m args below meth c B.U B.locs B.cells B.slots ∧ PostX ⟨T.setVm vm₁, locs, cells, slots⟩ argsL.toArray q B ∧
      Steps p.tables e below (T.setTop g) ((B.U.setTop { g with stack := rest }).pushFrame (.throwing q))) := by
  obtain ⟨mk, hnamed⟩ := Cond.code_named hcode
  obtain ⟨methM, cM, hmethM, -, -, -, -, -, -, hsigM⟩ := Cond.code_spec hnamed hcode
  have hstatic : methM.isStatic = true := Cond.static_spec hnamed hmethM hstat
  obtain ⟨kP, hkP, -⟩ := className_of_methodNamed hnamed
  have hinitP : kP.init = .initialized := Cond.initialized_spec (findClass_of_methodNamed hnamed) hkP hinit
  obtain ⟨vm₁, X₁, hstep₁⟩ := X.invokestatic hexec hown hlink hnamed hmethM hstatic hkP hinitP hy (g := g) hg (argsL := argsL) (rest := rest) (hlen _ hsigM) hstack hdg
  rcases hK m meth c ⟨T.setVm vm₁, locs, cells, slots⟩ { g with stack := rest } (.invokestatic index) mk argsL.toArray X₁ hg hsize hdg hW (X₁.named hnamed) (hpre vm₁ X₁.warmed) with ⟨v, B, X', hpost, hsteps⟩ | ⟨q, B, X', hpost, hsteps⟩
  · exact Or.inl ⟨v, vm₁, B, X₁.warmed, X', hpost, fun target h => hstep₁ _ fun acts => by rw [doInvoke_state]; exact hsteps.trans h⟩
  · exact Or.inr ⟨q, vm₁, B, X₁.warmed, X', hpost, hstep₁ _ fun acts => by rw [doInvoke_state]; exact hsteps⟩
end Calls
theorem vx_cls {s : State} {T : State} {vm₁ : Vm} {E : String} {k : ClassId} (hW : s.WarmedH vm₁) (h : (T.setVm vm₁).vm.findClass E = some k) : s.vm.findClass E = some k := by
  have h1 : vm₁.findClass E = some k := h
  rw [hW.alike.findClass] at h1
  exact h1
/-- the method's frame g, with q thrown over it -/
def vx_W (p : Program) (l : Launch) (e : Env) (R : Room) (s : State) (m : MethodId) (args : Array Value) (below : List Frame) (meth : Method) (c : Code) (H : Heap) (locs : List Loc) (cells slots : Nat) (Q : State → Prop) (g : JFrame) (q : Addr) : Prop :=
  ∀ T : State, T.heap = H → Stand p l e R s m args below meth c T locs cells slots → ∃ t, Steps p.tables e below ((T.setTop g).pushFrame (.throwing q)) t ∧ Q t
def vx_Run (p : Program) (l : Launch) (e : Env) (R : Room) (s : State) (m : MethodId) (args : Array Value) (below : List Frame) (meth : Method) (c : Code) (H : Heap) (locs : List Loc) (cells slots mc ms : Nat) (g : JFrame) (rest : List Value) (Qa : State → Outcome → State → Prop) (XC : String → State → State → Prop) (free : Addr → Prop) : Prop :=
  ∀ T : State, T.heap = H → Stand p l e R s m args below meth c T locs cells slots →
    (∃ (v : Option Value) (st₀ t T' : State) (L : List Loc), st₀.heap = H ∧ Stand p l e R s m args below meth c T' (locs ++ L) (cells + mc) (slots + ms) ∧ (∀ q ∈ L, free q.base) ∧ T'.heap = t.heap ∧ T'.vm = t.vm ∧ Qa st₀ (.returned v) t ∧
      Goes p e below T g T' { g with pc := g.pc + 3, stack := v.toList ++ rest }) ∨
    (∃ (q : Addr) (st₀ t T' : State) (L : List Loc) (E : String) (ce : Cell), st₀.heap = H ∧ Stand p l e R s m args below meth c T' (locs ++ L) (cells + mc) (slots + ms) ∧ (∀ z ∈ L, free z.base) ∧ T'.heap = t.heap ∧ T'.vm = t.vm ∧ XC E st₀ t ∧ t.heap[q]? = some ce ∧ ce.vm = .none ∧ s.vm.findClass E = some ce.cls ∧
      Steps p.tables e below (T.setTop g) ((T'.setTop { g with stack := rest }).pushFrame (.throwing q)))
def vx_X {S : Type} (px : S → Prop) (B : String → S → State → Prop) (A : Nat → Prop) : String → State → State → Prop := fun E st t => ∃ u : S, px u ∧ B E u t ∧ va_F A st t
section Runs
variable {p : Program} {l : Launch} {e : Env} {R : Room} {s : State} {m : MethodId} {args : Array Value} {below : List Frame} {meth : Method} {c : Code} {H : Heap} {locs : List Loc} {cells slots : Nat}
variable {y : MethodName} {bytes cc : ByteArray} {maxL nL mc ms n index : Nat} {ret : Option FieldType} {ws : List Cond} {rm : Room} {Pc : Array Value → State → Prop} {Qc : Array Value → State → Outcome → State → Prop} {XC : String → State → State → Prop} {free : Addr → Prop} {Ts : List Cond} {own C : String} {b : Addr} {As rest : List Value} {g : JFrame}
theorem vx_callBack (cb : CallB R s args own index y bytes maxL ret ws rm mc ms n) (hM : vx_Met l y ws rm Pc Qc XC mc ms free) (hbl : FrameBlind Pc) : vx_Back l R p e below s args y 3 8 (PreOf R mc ms Pc) (PostOf Qc mc ms free) (vx_Post XC mc ms free) := by
  obtain ⟨hrc, hrs, hfr, hlo, hws, hcw, -, hini, -⟩ := cb
  exact vx_back (bytes := bytes) (maxL := maxL) (ret := ret) hM hbl hrc hrs hfr hlo hws hcw (fun a' U hW => word_at hW (Or.inl (by first | rfl | simp [Cond.onTables, Cond.keeps, Cond.steady])) hini)
theorem vx_runV (S : CallFix p m c cc nL s args Ts own) (hM : vx_Met l y ws rm Pc Qc XC mc ms free) (cw : CallW R s args own C index y bytes maxL ret ws rm mc ms n) (hp : PreV s H C b Pc As)
    (hg : g.method = m) (hn : As.length = n) (hsize : g.locals.size = nL) (hstack : g.stack = As.reverse ++ .ref b :: rest) (hW : 2 * g.monitorRoom + (rest.map fun v => v.category).sum ≤ 8) (hdg : decode cc g.pc = .ok (.invokevirtual index, 3)) (hf : cells + mc ≤ R.cells ∧ slots + ms ≤ R.slots) :
    vx_Run p l e R s m args below meth c H locs cells slots mc ms g rest (Qc (Value.ref b :: As).toArray) XC free := by
  have hK : vx_Back l R p e below s args y 3 8 (PreOf R mc ms Pc) (PostOf Qc mc ms free) (vx_Post XC mc ms free) := vx_callBack cw.1 hM hp.1
  obtain ⟨⟨-, -, -, -, -, -, hcode, -, hy, hlen, hl⟩, hin, hse⟩ := cw
  obtain ⟨hx, hb, hml, ho, -⟩ := S
  obtain ⟨-, ⟨cellB, hcB, hoB, hclB⟩, hPc⟩ := hp
  intro T hT X
  rcases vx_callV X hx (C := C) (bytes := bytes) (maxL := maxL) (ret := ret) ho hl hin hse hcode hy hK (by rw [hT]; exact hcB) hoB hclB hg (hsize.trans hml.symm) (argsL := As) (rest := rest) (fun sig h => hn.trans (hlen sig h)) hstack hW (by rw [hb]; exact hdg)
    (fun vm₁ hW₁ => ⟨hf.1, hf.2, hPc (T.setVm vm₁) hT hW₁⟩) with ⟨v, vm₁, ⟨U', l2, c2, s2⟩, hW₁, X', ⟨g', mk, t, L, e1, e2, hq, h1, hL, h2, h3⟩, st⟩ | ⟨q, vm₁, ⟨U', l2, c2, s2⟩, hW₁, X', ⟨g', mk, t, L, E, ce, e1, e2, hq, hce, hcv, hcl, h1, hL, h2, h3⟩, st⟩
  · dsimp only [Pt.U, Pt.locs, Pt.cells, Pt.slots] at X' e1 e2 h1 h2 h3 st
    subst h1; subst h2; subst h3
    exact Or.inl ⟨v, (T.setVm vm₁).calling g' mk (Value.ref b :: As).toArray, t, U', L, hT, X', hL, e1, e2, hq, st⟩
  · dsimp only [Pt.U, Pt.locs, Pt.cells, Pt.slots] at X' e1 e2 h1 h2 h3 st hcl
    subst h1; subst h2; subst h3
    exact Or.inr ⟨q, (T.setVm vm₁).calling g' mk (Value.ref b :: As).toArray, t, U', L, E, ce, hT, X', hL, e1, e2, hq, hce, hcv, vx_cls hW₁ hcl, st⟩
theorem vx_runS (S : CallFix p m c cc nL s args Ts own) (hM : vx_Met l y ws rm Pc Qc XC mc ms free) (cw : CallB R s args own index y bytes maxL ret ws rm mc ms n ∧ (Cond.static y).before args s = true) (hp : PreS s H Pc As)
    (hg : g.method = m) (hn : As.length = n) (hsize : g.locals.size = nL) (hstack : g.stack = As.reverse ++ rest) (hW : 2 * g.monitorRoom + (rest.map fun v => v.category).sum ≤ 8) (hdg : decode cc g.pc = .ok (.invokestatic index, 3)) (hf : cells + mc ≤ R.cells ∧ slots + ms ≤ R.slots) :
    vx_Run p l e R s m args below meth c H locs cells slots mc ms g rest (Qc As.toArray) XC free := by
  have hK : vx_Back l R p e below s args y 3 8 (PreOf R mc ms Pc) (PostOf Qc mc ms free) (vx_Post XC mc ms free) := vx_callBack cw.1 hM hp.1
  obtain ⟨⟨-, -, -, -, -, -, hcode, hini, hy, hlen, hl⟩, hstt⟩ := cw
  obtain ⟨hx, hb, hml, ho, -⟩ := S
  intro T hT X
  rcases vx_callS X hx (bytes := bytes) (maxL := maxL) (ret := ret) ho hl hstt hini hcode hy hK hg (hsize.trans hml.symm) (argsL := As) (rest := rest) (fun sig h => hn.trans (hlen sig h)) hstack hW (by rw [hb]; exact hdg)
    (fun vm₁ hW₁ => ⟨hf.1, hf.2, hp.2 (T.setVm vm₁) hT hW₁⟩) with ⟨v, vm₁, ⟨U', l2, c2, s2⟩, hW₁, X', ⟨g', mk, t, L, e1, e2, hq, h1, hL, h2, h3⟩, st⟩ | ⟨q, vm₁, ⟨U', l2, c2, s2⟩, hW₁, X', ⟨g', mk, t, L, E, ce, e1, e2, hq, hce, hcv, hcl, h1, hL, h2, h3⟩, st⟩
  · dsimp only [Pt.U, Pt.locs, Pt.cells, Pt.slots] at X' e1 e2 h1 h2 h3 st
    subst h1; subst h2; subst h3
    exact Or.inl ⟨v, (T.setVm vm₁).calling g' mk As.toArray, t, U', L, hT, X', hL, e1, e2, hq, st⟩
  · dsimp only [Pt.U, Pt.locs, Pt.cells, Pt.slots] at X' e1 e2 h1 h2 h3 st hcl
    subst h1; subst h2; subst h3
    exact Or.inr ⟨q, (T.setVm vm₁).calling g' mk As.toArray, t, U', L, E, ce, hT, X', hL, e1, e2, hq, hce, hcv, vx_cls hW₁ hcl, st⟩
end Runs
section Rows
variable {p : Program} {l : Launch} {e : Env} {R : Room} {s : State} {m : MethodId} {args : Array Value} {below : List Frame} {meth : Method} {c : Code} {H : Heap} {locs : List Loc} {cells slots : Nat} {Q : State → Prop}
variable {mc ms : Nat} {free : Addr → Prop} {A0 A1 : Nat → Prop} {H0 : Heap} {a : Array Value} {pc : Nat} {ls : Array Slot} {st0 rest : List Value}
theorem vx_keep {st₀ t T' : State} {L : List Loc} (h0 : st₀.heap = H) (e1 : T'.heap = t.heap) (hS : va_S A0 H0 H locs) (hA : ∀ q, q < H.size → A1 q → A0 q) (hf : ∀ q, free q → A0 q) (hL : ∀ q ∈ L, free q.base) (hF : va_F A1 st₀ t) :
    H.size ≤ T'.heap.size ∧ (∀ q : Nat, q < H.size → ¬ A1 q → T'.heap[q]? = H[q]?) ∧ va_S A0 H0 T'.heap (locs ++ L) := by
  obtain ⟨hz, hk⟩ := hF
  rw [h0] at hz hk
  exact ⟨by rw [e1]; exact hz, fun q h1 h2 => by rw [e1]; exact hk q h1 h2,
    ⟨Nat.le_trans hS.1 (by rw [e1]; exact hz), fun q h1 h2 => by rw [e1, hk q (Nat.lt_of_lt_of_le h1 hS.1) (fun z => h2 (hA q (Nat.lt_of_lt_of_le h1 hS.1) z))]; exact hS.2.1 q h1 h2, fun q hq => by
      rcases List.mem_append.mp hq with h | h
      · exact hS.2.2 q h
      · exact hf _ (hL q h)⟩⟩
theorem vx_calli {S SX : Type} {post : Int32 → S → Prop} {px : SX → Prop} {B : S → State → Prop} {BX : String → SX → State → Prop} {AX : Nat → Prop} (hr : vx_Run p l e R s m args below meth c H locs cells slots mc ms (F0 m pc ls st0) rest (va_Qi post B A1 a) (vx_X px BX AX) free) (hS : va_S A0 H0 H locs) (hA : ∀ q, q < H.size → A1 q → A0 q) (hf : ∀ q, free q → A0 q) (hAX : ∀ q, q < H.size → AX q → A0 q)
    (kx : ∀ (E : String) (ce : Cell) (q9 : Addr) (u : SX) (t : State) (H1 : Heap) (locs1 : List Loc), t.heap = H1 → s.vm.Alike t.vm → px u → BX E u t → H.size ≤ H1.size → (∀ q : Nat, q < H.size → ¬ AX q → H1[q]? = H[q]?) → va_S A0 H0 H1 locs1 → H1[q9]? = some ce → ce.vm = .none → s.vm.findClass E = some ce.cls → vx_W p l e R s m args below meth c H1 locs1 (cells + mc) (slots + ms) Q (F0 m pc ls rest) q9)
    (kk : ∀ (r : Int32) (u : S) (t : State) (H1 : Heap) (locs1 : List Loc), t.heap = H1 → s.vm.Alike t.vm → post r u → B u t → H.size ≤ H1.size → (∀ q : Nat, q < H.size → ¬ A1 q → H1[q]? = H[q]?) → va_S A0 H0 H1 locs1 → W p l e R s m args below meth c H1 locs1 (cells + mc) (slots + ms) Q (F0 m (pc + 3) ls (.int r :: rest))) : W p l e R s m args below meth c H locs cells slots Q (F0 m pc ls st0) := by
  intro T hT X
  rcases hr T hT X with ⟨v, st₀, t, T', L, h0, X', hL, e1, e2, ⟨⟨r, u, hv, hp, hb⟩, hF⟩, st⟩ | ⟨q, st₀, t, T', L, E, ce, h0, X', hL, e1, e2, ⟨u, hp, hb, hF⟩, hce, hcv, hcl, st⟩
  · cases hv
    obtain ⟨k1, k2, k3⟩ := vx_keep h0 e1 hS hA hf hL hF
    obtain ⟨t2, a1, b1⟩ := kk r u t T'.heap (locs ++ L) e1.symm (by rw [← e2]; exact X'.warmed.alike) hp hb k1 k2 k3 T' rfl X'
    exact ⟨t2, st t2 a1, b1⟩
  · obtain ⟨k1, k2, k3⟩ := vx_keep h0 e1 hS hAX hf hL hF
    obtain ⟨t2, a1, b1⟩ := kx E ce q u t T'.heap (locs ++ L) e1.symm (by rw [← e2]; exact X'.warmed.alike) hp hb k1 k2 k3 (by rw [e1]; exact hce) hcv hcl T' rfl X'
    exact ⟨t2, st.trans a1, b1⟩
theorem vx_calll {S SX : Type} {post : Int64 → S → Prop} {px : SX → Prop} {B : S → State → Prop} {BX : String → SX → State → Prop} {AX : Nat → Prop} (hr : vx_Run p l e R s m args below meth c H locs cells slots mc ms (F0 m pc ls st0) rest (va_Ql post B A1 a) (vx_X px BX AX) free) (hS : va_S A0 H0 H locs) (hA : ∀ q, q < H.size → A1 q → A0 q) (hf : ∀ q, free q → A0 q) (hAX : ∀ q, q < H.size → AX q → A0 q)
    (kx : ∀ (E : String) (ce : Cell) (q9 : Addr) (u : SX) (t : State) (H1 : Heap) (locs1 : List Loc), t.heap = H1 → s.vm.Alike t.vm → px u → BX E u t → H.size ≤ H1.size → (∀ q : Nat, q < H.size → ¬ AX q → H1[q]? = H[q]?) → va_S A0 H0 H1 locs1 → H1[q9]? = some ce → ce.vm = .none → s.vm.findClass E = some ce.cls → vx_W p l e R s m args below meth c H1 locs1 (cells + mc) (slots + ms) Q (F0 m pc ls rest) q9)
    (kk : ∀ (r : Int64) (u : S) (t : State) (H1 : Heap) (locs1 : List Loc), t.heap = H1 → s.vm.Alike t.vm → post r u → B u t → H.size ≤ H1.size → (∀ q : Nat, q < H.size → ¬ A1 q → H1[q]? = H[q]?) → va_S A0 H0 H1 locs1 → W p l e R s m args below meth c H1 locs1 (cells + mc) (slots + ms) Q (F0 m (pc + 3) ls (.long r :: rest))) : W p l e R s m args below meth c H locs cells slots Q (F0 m pc ls st0) := by
  intro T hT X
  rcases hr T hT X with ⟨v, st₀, t, T', L, h0, X', hL, e1, e2, ⟨⟨r, u, hv, hp, hb⟩, hF⟩, st⟩ | ⟨q, st₀, t, T', L, E, ce, h0, X', hL, e1, e2, ⟨u, hp, hb, hF⟩, hce, hcv, hcl, st⟩
  · cases hv
    obtain ⟨k1, k2, k3⟩ := vx_keep h0 e1 hS hA hf hL hF
    obtain ⟨t2, a1, b1⟩ := kk r u t T'.heap (locs ++ L) e1.symm (by rw [← e2]; exact X'.warmed.alike) hp hb k1 k2 k3 T' rfl X'
    exact ⟨t2, st t2 a1, b1⟩
  · obtain ⟨k1, k2, k3⟩ := vx_keep h0 e1 hS hAX hf hL hF
    obtain ⟨t2, a1, b1⟩ := kx E ce q u t T'.heap (locs ++ L) e1.symm (by rw [← e2]; exact X'.warmed.alike) hp hb k1 k2 k3 (by rw [e1]; exact hce) hcv hcl T' rfl X'
    exact ⟨t2, st.trans a1, b1⟩
theorem vx_callf {S SX : Type} {post : UInt32 → S → Prop} {px : SX → Prop} {B : S → State → Prop} {BX : String → SX → State → Prop} {AX : Nat → Prop} (hr : vx_Run p l e R s m args below meth c H locs cells slots mc ms (F0 m pc ls st0) rest (va_Qf post B A1 a) (vx_X px BX AX) free) (hS : va_S A0 H0 H locs) (hA : ∀ q, q < H.size → A1 q → A0 q) (hf : ∀ q, free q → A0 q) (hAX : ∀ q, q < H.size → AX q → A0 q)
    (kx : ∀ (E : String) (ce : Cell) (q9 : Addr) (u : SX) (t : State) (H1 : Heap) (locs1 : List Loc), t.heap = H1 → s.vm.Alike t.vm → px u → BX E u t → H.size ≤ H1.size → (∀ q : Nat, q < H.size → ¬ AX q → H1[q]? = H[q]?) → va_S A0 H0 H1 locs1 → H1[q9]? = some ce → ce.vm = .none → s.vm.findClass E = some ce.cls → vx_W p l e R s m args below meth c H1 locs1 (cells + mc) (slots + ms) Q (F0 m pc ls rest) q9)
    (kk : ∀ (r : UInt32) (u : S) (t : State) (H1 : Heap) (locs1 : List Loc), t.heap = H1 → s.vm.Alike t.vm → post r u → B u t → H.size ≤ H1.size → (∀ q : Nat, q < H.size → ¬ A1 q → H1[q]? = H[q]?) → va_S A0 H0 H1 locs1 → W p l e R s m args below meth c H1 locs1 (cells + mc) (slots + ms) Q (F0 m (pc + 3) ls (.float r :: rest))) : W p l e R s m args below meth c H locs cells slots Q (F0 m pc ls st0) := by
  intro T hT X
  rcases hr T hT X with ⟨v, st₀, t, T', L, h0, X', hL, e1, e2, ⟨⟨r, u, hv, hp, hb⟩, hF⟩, st⟩ | ⟨q, st₀, t, T', L, E, ce, h0, X', hL, e1, e2, ⟨u, hp, hb, hF⟩, hce, hcv, hcl, st⟩
  · cases hv
    obtain ⟨k1, k2, k3⟩ := vx_keep h0 e1 hS hA hf hL hF
    obtain ⟨t2, a1, b1⟩ := kk r u t T'.heap (locs ++ L) e1.symm (by rw [← e2]; exact X'.warmed.alike) hp hb k1 k2 k3 T' rfl X'
    exact ⟨t2, st t2 a1, b1⟩
  · obtain ⟨k1, k2, k3⟩ := vx_keep h0 e1 hS hAX hf hL hF
    obtain ⟨t2, a1, b1⟩ := kx E ce q u t T'.heap (locs ++ L) e1.symm (by rw [← e2]; exact X'.warmed.alike) hp hb k1 k2 k3 (by rw [e1]; exact hce) hcv hcl T' rfl X'
    exact ⟨t2, st.trans a1, b1⟩
theorem vx_calld {S SX : Type} {post : UInt64 → S → Prop} {px : SX → Prop} {B : S → State → Prop} {BX : String → SX → State → Prop} {AX : Nat → Prop} (hr : vx_Run p l e R s m args below meth c H locs cells slots mc ms (F0 m pc ls st0) rest (va_Qd post B A1 a) (vx_X px BX AX) free) (hS : va_S A0 H0 H locs) (hA : ∀ q, q < H.size → A1 q → A0 q) (hf : ∀ q, free q → A0 q) (hAX : ∀ q, q < H.size → AX q → A0 q)
    (kx : ∀ (E : String) (ce : Cell) (q9 : Addr) (u : SX) (t : State) (H1 : Heap) (locs1 : List Loc), t.heap = H1 → s.vm.Alike t.vm → px u → BX E u t → H.size ≤ H1.size → (∀ q : Nat, q < H.size → ¬ AX q → H1[q]? = H[q]?) → va_S A0 H0 H1 locs1 → H1[q9]? = some ce → ce.vm = .none → s.vm.findClass E = some ce.cls → vx_W p l e R s m args below meth c H1 locs1 (cells + mc) (slots + ms) Q (F0 m pc ls rest) q9)
    (kk : ∀ (r : UInt64) (u : S) (t : State) (H1 : Heap) (locs1 : List Loc), t.heap = H1 → s.vm.Alike t.vm → post r u → B u t → H.size ≤ H1.size → (∀ q : Nat, q < H.size → ¬ A1 q → H1[q]? = H[q]?) → va_S A0 H0 H1 locs1 → W p l e R s m args below meth c H1 locs1 (cells + mc) (slots + ms) Q (F0 m (pc + 3) ls (.double r :: rest))) : W p l e R s m args below meth c H locs cells slots Q (F0 m pc ls st0) := by
  intro T hT X
  rcases hr T hT X with ⟨v, st₀, t, T', L, h0, X', hL, e1, e2, ⟨⟨r, u, hv, hp, hb⟩, hF⟩, st⟩ | ⟨q, st₀, t, T', L, E, ce, h0, X', hL, e1, e2, ⟨u, hp, hb, hF⟩, hce, hcv, hcl, st⟩
  · cases hv
    obtain ⟨k1, k2, k3⟩ := vx_keep h0 e1 hS hA hf hL hF
    obtain ⟨t2, a1, b1⟩ := kk r u t T'.heap (locs ++ L) e1.symm (by rw [← e2]; exact X'.warmed.alike) hp hb k1 k2 k3 T' rfl X'
    exact ⟨t2, st t2 a1, b1⟩
  · obtain ⟨k1, k2, k3⟩ := vx_keep h0 e1 hS hAX hf hL hF
    obtain ⟨t2, a1, b1⟩ := kx E ce q u t T'.heap (locs ++ L) e1.symm (by rw [← e2]; exact X'.warmed.alike) hp hb k1 k2 k3 (by rw [e1]; exact hce) hcv hcl T' rfl X'
    exact ⟨t2, st.trans a1, b1⟩
theorem vx_callv {S SX : Type} {post : S → Prop} {px : SX → Prop} {B : S → State → Prop} {BX : String → SX → State → Prop} {AX : Nat → Prop} (hr : vx_Run p l e R s m args below meth c H locs cells slots mc ms (F0 m pc ls st0) rest (va_Qv post B A1 a) (vx_X px BX AX) free) (hS : va_S A0 H0 H locs) (hA : ∀ q, q < H.size → A1 q → A0 q) (hf : ∀ q, free q → A0 q) (hAX : ∀ q, q < H.size → AX q → A0 q)
    (kx : ∀ (E : String) (ce : Cell) (q9 : Addr) (u : SX) (t : State) (H1 : Heap) (locs1 : List Loc), t.heap = H1 → s.vm.Alike t.vm → px u → BX E u t → H.size ≤ H1.size → (∀ q : Nat, q < H.size → ¬ AX q → H1[q]? = H[q]?) → va_S A0 H0 H1 locs1 → H1[q9]? = some ce → ce.vm = .none → s.vm.findClass E = some ce.cls → vx_W p l e R s m args below meth c H1 locs1 (cells + mc) (slots + ms) Q (F0 m pc ls rest) q9)
    (kk : ∀ (u : S) (t : State) (H1 : Heap) (locs1 : List Loc), t.heap = H1 → s.vm.Alike t.vm → post u → B u t → H.size ≤ H1.size → (∀ q : Nat, q < H.size → ¬ A1 q → H1[q]? = H[q]?) → va_S A0 H0 H1 locs1 → W p l e R s m args below meth c H1 locs1 (cells + mc) (slots + ms) Q (F0 m (pc + 3) ls (rest))) : W p l e R s m args below meth c H locs cells slots Q (F0 m pc ls st0) := by
  intro T hT X
  rcases hr T hT X with ⟨v, st₀, t, T', L, h0, X', hL, e1, e2, ⟨⟨u, hv, hp, hb⟩, hF⟩, st⟩ | ⟨q, st₀, t, T', L, E, ce, h0, X', hL, e1, e2, ⟨u, hp, hb, hF⟩, hce, hcv, hcl, st⟩
  · cases hv
    obtain ⟨k1, k2, k3⟩ := vx_keep h0 e1 hS hA hf hL hF
    obtain ⟨t2, a1, b1⟩ := kk u t T'.heap (locs ++ L) e1.symm (by rw [← e2]; exact X'.warmed.alike) hp hb k1 k2 k3 T' rfl X'
    exact ⟨t2, st t2 a1, b1⟩
  · obtain ⟨k1, k2, k3⟩ := vx_keep h0 e1 hS hAX hf hL hF
    obtain ⟨t2, a1, b1⟩ := kx E ce q u t T'.heap (locs ++ L) e1.symm (by rw [← e2]; exact X'.warmed.alike) hp hb k1 k2 k3 (by rw [e1]; exact hce) hcv hcl T' rfl X'
    exact ⟨t2, st.trans a1, b1⟩
/-- caught by the row x of this method's table; the rows ahead don't take it -/
theorem vx_catch {own name : String} {E : String} {ce : Cell} {q : Addr} (hown : s.vm.findClass own = some m.cls) (pre : List ExceptionTableEntry) (x : ExceptionTableEntry) (suf : List ExceptionTableEntry) (hsplit : c.exceptionTable.toList = pre ++ x :: suf)
    (hpass : ∀ z ∈ pre, covers z pc = false ∨ (z.catchType ≠ 0 ∧ ∃ nm : String, (Cond.classLink own z.catchType nm).before args s = true ∧ va_Nc E nm s)) (hx : covers x pc = true) (h0 : x.catchType ≠ 0)
    (hlink : (Cond.classLink own x.catchType name).before args s = true) (hcast : (Cond.castable E name).before args s = true) (hcell : H[q]? = some ce) (hv : ce.vm = .none) (hcl : s.vm.findClass E = some ce.cls)
    (kk : W p l e R s m args below meth c H locs cells slots Q (F0 m x.handlerPc ls [.ref q])) : vx_W p l e R s m args below meth c H locs cells slots Q (F0 m pc ls rest) q := by
  intro T hT X
  have hpl : e.platform.magicAccessors = ({} : Platform).magicAccessors := by rw [X.admits.platform]
  obtain ⟨c3, c4, hc3, hc4, hasg⟩ := Cond.castable_spec hcast
  cases Option.some.inj (hc3.symm.trans hcl)
  obtain ⟨c5, hc5, hcl5⟩ := Cond.classLink_spec hown hlink e.platform hpl
  cases Option.some.inj (hc4.symm.trans hc5)
  obtain ⟨vm', X', st⟩ := X.thenCaughtThrough q (g := F0 m pc ls rest) rfl (Steps.refl _) (by rw [hT]; exact hcell) (by rw [hv]; rfl) (by obtain ⟨k9, h9, -⟩ := Vm.findClass_spec hcl; exact ⟨k9, h9⟩) pre x suf hsplit
    (fun z hz => by
      rcases hpass z hz with h | ⟨hz0, nm, hl1, hn1⟩
      · exact Or.inl h
      · obtain ⟨c6, hc6, hcl6⟩ := Cond.classLink_spec hown hl1 e.platform hpl
        obtain ⟨a8, b8, h1, h2, h3⟩ := hn1
        cases Option.some.inj (h1.symm.trans hcl)
        cases Option.some.inj (h2.symm.trans hc6)
        exact Or.inr ⟨hz0, _, hcl6, h3⟩) hx (Or.inr ⟨h0, c4, hcl5, hasg⟩)
  obtain ⟨t, a1, b1⟩ := kk (T.setVm vm') hT X'
  exact ⟨t, st.trans a1, b1⟩
end Rows
section Ends
variable {p : Program} {l : Launch} {e : Env} {R : Room} {s : State} {m : MethodId} {args : Array Value} {below : List Frame} {meth : Method} {c : Code} {H : Heap} {locs : List Loc} {cells slots : Nat} {Q : State → Prop}
variable {mc ms : Nat} {free : Addr → Prop} {A0 A1 : Nat → Prop} {H0 : Heap} {a : Array Value} {ls : Array Slot} {st0 rest : List Value}
variable {Qc : Array Value → State → Outcome → State → Prop} {XC : String → State → State → Prop}
/-- what a body that may throw owes at its end -/
def vx_MQ (below : List Frame) (Qc : Array Value → State → Outcome → State → Prop) (XC : String → State → State → Prop) (a : Array Value) (s : State) (mc ms : Nat) (free : Addr → Prop) : State → Prop := fun t =>
  ∃ o, t.status = .running ∧ Ended t below o ∧ vx_Q Qc XC mc ms free a s o t
theorem vx_ret {g : JFrame} {mc ms : Nat} (k : W p l e R s m args below meth c H locs cells slots (MQ below Qc args s mc ms free) g) : W p l e R s m args below meth c H locs cells slots (vx_MQ below Qc XC args s mc ms free) g := by
  intro T hT X
  obtain ⟨t, a1, o, b1, b2, b3, b4⟩ := k T hT X
  exact ⟨t, a1, o, b1, b2, Or.inl ⟨b3, b4⟩⟩
/-- not caught here: it goes on to the caller -/
theorem vx_widen {g : JFrame} {q : Addr} {k n : Nat} (h1 : cells ≤ k) (h2 : slots ≤ n) (kk : vx_W p l e R s m args below meth c H locs k n Q g q) : vx_W p l e R s m args below meth c H locs cells slots Q g q := fun T hT X => kk T hT (stand_widen X h1 h2)
theorem vx_out {pc : Nat} {E : String} {ce : Cell} {q : Addr} {mc ms : Nat} (hout : ∀ x ∈ c.exceptionTable.toList, covers x pc = false) (hlocks : meth.locks = false) (hcell : H[q]? = some ce) (hv : ce.vm = .none) (hcl : s.vm.findClass E = some ce.cls)
    (hx : ∀ t : State, t.heap = H → s.vm.Alike t.vm → XC E s t) (hf : ∀ z ∈ locs, free z.base) (hc : cells ≤ mc) (hs : slots ≤ ms) :
    vx_W p l e R s m args below meth c H locs cells slots (vx_MQ below Qc XC args s mc ms free) (F0 m pc ls rest) q := by
  intro T hT X
  obtain ⟨st1, hrun, hend, hW, hsm⟩ := X.leaveThrown q (g := F0 m pc ls rest) rfl rfl rfl hout hlocks
  have hcell9 : (T.setFrames (.throwing q :: below)).heap[q]? = some ce := by
    show T.heap[q]? = some ce
    rw [hT]; exact hcell
  exact ⟨_, st1, .threw q, hrun, hend, Or.inr ⟨q, rfl, E, ce, locs, hx _ hT hW.alike, hcell9, hv, hcl, hW, hsm.mono hc hs, hf⟩⟩
theorem vx_frame {U : State} {k n : Nat} (h : s.sameButNew ({ U with vm := s.vm } : State) locs k n) : s.heap.size ≤ U.heap.size ∧ ∀ q : Nat, q < s.heap.size → (∀ z ∈ locs, z.base ≠ q) → U.heap[q]? = s.heap[q]? := by
  obtain ⟨-, h2, -, -, -, h6⟩ := h
  refine ⟨h2, fun q hq hz => ?_⟩
  obtain ⟨c9, e1, e2, e3, e4⟩ := h6 q _ (Array.getElem?_eq_getElem hq)
  have hs : c9.slots = (s.heap[q]).slots := Array.ext_getElem? fun i => e4 i fun hm => hz _ hm rfl
  have h9 : c9 = s.heap[q] := by
    rw [hs] at e2
    exact e2
  have e5 : U.heap[q]? = some c9 := e1
  rw [e5, h9, Array.getElem?_eq_getElem hq]
/-- the words of a throw but the four that speak of the heap -/
def vx_no (w : Cond) : Bool := decide (w ≠ .isRef (.static Bundle.tN "UNASSIGNED_STACK" Bundle.steD)) && decide (w ≠ .isRef (.static Bundle.tN "SUPPRESSED_SENTINEL" Bundle.listD)) && decide (w ≠ .laysStatic Bundle.tN "UNASSIGNED_STACK" Bundle.steD) && decide (w ≠ .laysStatic Bundle.tN "SUPPRESSED_SENTINEL" Bundle.listD)
def vx_at0 (own : String) (ic : Nat) (X : String) (names : List String) : List Cond := (Bundle.ownAtoms0 own ic X names).filter vx_no
def vx_atS (own : String) (ic : Nat) (X : String) (names : List String) : List Cond := (Bundle.ownAtoms own ic X names).filter vx_no
/-- a word that the tables alone decide, or a good one -/
def vx_ot (w : Cond) : Bool := w.onTables || goodWord w
theorem vx_ot_at {args a' : Array Value} {s U : State} {w : Cond} (hW : s.WarmedH U.vm) (hvm : s.vm = U.vm) (hg : vx_ot w = true) (h : w.before args s = true) : w.before a' U = true := by
  simp only [vx_ot, Bool.or_eq_true] at hg
  rcases hg with hg | hg
  · exact va_tabs hg hvm h
  · exact word_at hW (good_of_word hg) h
/-- a list's words: the good ones out of the method's own list, the others by premises of their own -/
theorem vx_hat {args : Array Value} {s : State} {L B : List Cond} (h1 : ∀ w ∈ L.filter goodWord, w.before args s = true) (h2 : ∀ w ∈ L.filter (fun w => !goodWord w), w ∈ B) (h3 : ∀ w ∈ B, w.before args s = true) : ∀ w ∈ L, w.before args s = true := by
  intro w hw
  by_cases g : goodWord w = true
  · exact h1 w (List.mem_filter.mpr ⟨hw, g⟩)
  · refine h3 w (h2 w (List.mem_filter.mpr ⟨hw, ?_⟩))
    show (!goodWord w) = true
    cases hgw : goodWord w
    · rfl
    · exact absurd hgw g
theorem vx_c {args : Array Value} {s : State} {w : Cond} {B : List Cond} (h : w.before args s = true) (t : ∀ w ∈ B, w.before args s = true) : ∀ w' ∈ w :: B, w'.before args s = true := fun w' h' => (List.mem_cons.mp h').elim (fun e => by rw [e]; exact h) (t w')
theorem vx_n {args : Array Value} {s : State} : ∀ w ∈ ([] : List Cond), w.before args s = true := fun _ h => nomatch h
theorem vx_own {args : Array Value} {s : State} {L : List Cond} (h1 : ∀ w ∈ L.filter vx_no, w.before args s = true)
    (hU : (Cond.isRef (.static Bundle.tN "UNASSIGNED_STACK" Bundle.steD)).before args s = true) (hN : (Cond.isRef (.static Bundle.tN "SUPPRESSED_SENTINEL" Bundle.listD)).before args s = true)
    (lU : (Cond.laysStatic Bundle.tN "UNASSIGNED_STACK" Bundle.steD).before args s = true) (lN : (Cond.laysStatic Bundle.tN "SUPPRESSED_SENTINEL" Bundle.listD).before args s = true) : ∀ w ∈ L, w.before args s = true := by
  intro w hw
  by_cases e1 : w = .isRef (.static Bundle.tN "UNASSIGNED_STACK" Bundle.steD)
  · rw [e1]; exact hU
  · by_cases e2 : w = .isRef (.static Bundle.tN "SUPPRESSED_SENTINEL" Bundle.listD)
    · rw [e2]; exact hN
    · by_cases e3 : w = .laysStatic Bundle.tN "UNASSIGNED_STACK" Bundle.steD
      · rw [e3]; exact lU
      · by_cases e4 : w = .laysStatic Bundle.tN "SUPPRESSED_SENTINEL" Bundle.listD
        · rw [e4]; exact lN
        · exact h1 w (List.mem_filter.mpr ⟨hw, by unfold vx_no; rw [decide_eq_true e1, decide_eq_true e2, decide_eq_true e3, decide_eq_true e4]; rfl⟩)
/-- where a static field lies, its class's statics cell in H -/
def vx_L (C n d : String) (A : Nat → Prop) (U : State) (H : Heap) : Prop := ∃ (c : ClassId) (k : Class) (i : Nat) (f : Field) (a : Nat) (cell : Cell), U.vm.findClass C = some c ∧ U.fieldFound? C n d = some (c, k, i, f) ∧ f.isStatic = true ∧ k.statics = some a ∧ H[a]? = some cell ∧ cell.vm.isStatics = true ∧ cell.cls = c ∧ f.slot < cell.slots.size ∧ k.staticTypes[f.slot]? = some f.type ∧ ¬ A a
theorem vx_L.moved {C n d : String} {A : Nat → Prop} {u U : State} {H : Heap} (hvm : u.vm.Alike U.vm) (h : vx_L C n d A u H) : vx_L C n d A U H := by
  obtain ⟨c, k, i, f, a, cell, h1, h2, h3, h4, h5, h6, h7, h8, h9, h10⟩ := h
  obtain ⟨k', hi', he⟩ := State.fieldFound?_setVm hvm h2
  exact ⟨c, k', i, f, a, cell, by rw [hvm.findClass]; exact h1, hi', h3, by rw [he]; exact h4, h5, h6, h7, h8, by rw [he]; exact h9, h10⟩
theorem vx_L.kept {C n d : String} {A : Nat → Prop} {U : State} {H H1 : Heap} (h : vx_L C n d A U H) (hq : ∀ a : Nat, a < H.size → ¬ A a → H1[a]? = H[a]?) : vx_L C n d A U H1 := by
  obtain ⟨c, k, i, f, a, cell, h1, h2, h3, h4, h5, h6, h7, h8, h9, h10⟩ := h
  exact ⟨c, k, i, f, a, cell, h1, h2, h3, h4, by rw [hq a (Array.getElem?_eq_some_iff.mp h5).1 h10]; exact h5, h6, h7, h8, h9, h10⟩
theorem vx_L.narrow {C n d : String} {A B : Nat → Prop} {U : State} {H : Heap} (h : vx_L C n d A U H) (hAB : ∀ q, B q → A q) : vx_L C n d B U H := by
  obtain ⟨c, k, i, f, a, cell, h1, h2, h3, h4, h5, h6, h7, h8, h9, h10⟩ := h
  exact ⟨c, k, i, f, a, cell, h1, h2, h3, h4, h5, h6, h7, h8, h9, fun z => h10 (hAB _ z)⟩
theorem vx_L.word {C n d : String} {A : Nat → Prop} {s : State} {args : Array Value} (h : vx_L C n d A s s.heap) : (Cond.laysStatic C n d).before args s = true := by
  obtain ⟨c, k, i, f, a, cell, h1, h2, h3, h4, h5, h6, h7, h8, h9, -⟩ := h
  show (Cond.laysStatic C n d).holds args s none s [] = true
  exact Cond.laysStatic_of h1 h2 h3 h4 h5 h6 h7 h8 h9
/-- .. and what it holds: null or some reference -/
def vx_Zq (C n d : String) (A : Nat → Prop) (U : State) (H : Heap) : Prop := va_Zq C n d A U H ∧ vx_L C n d A U H
theorem vx_Zq.moved {C n d : String} {A : Nat → Prop} {u U : State} {H : Heap} (hvm : u.vm.Alike U.vm) (h : vx_Zq C n d A u H) : vx_Zq C n d A U H := ⟨va_Zq.moved hvm h.1, vx_L.moved hvm h.2⟩
theorem vx_Zq.kept {C n d : String} {A : Nat → Prop} {U : State} {H H1 : Heap} (h : vx_Zq C n d A U H) (hq : ∀ a : Nat, a < H.size → ¬ A a → H1[a]? = H[a]?) : vx_Zq C n d A U H1 := ⟨va_Zq.kept h.1 hq, vx_L.kept h.2 hq⟩
theorem vx_Zq.narrow {C n d : String} {A B : Nat → Prop} {U : State} {H : Heap} (h : vx_Zq C n d A U H) (hAB : ∀ q, B q → A q) : vx_Zq C n d B U H := ⟨va_Zq.narrow h.1 hAB, vx_L.narrow h.2 hAB⟩
theorem vx_Zqof {args : Array Value} {s : State} {C n d : String} {A : Nat → Prop} (hl : (Cond.laysStatic C n d).before args s = true) (hini : (Cond.initialized C).before args s = true) (h : (Cond.isRef (.static C n d)).before args s = true) (hA : ∀ a : Nat, a < s.heap.size → ¬ A a) : vx_Zq C n d A s s.heap := by
  refine ⟨va_Zqof hl hini h hA, ?_⟩
  obtain ⟨c, k, i, f, a, cell, h1, h2, h3, h4, h5, h6, h7, h8, h9⟩ := Cond.laysStatic_spec hl
  exact ⟨c, k, i, f, a, cell, h1, h2, h3, h4, h5, h6, h7, h8, h9, hA a (Array.getElem?_eq_some_iff.mp h5).1⟩
theorem vx_isRef {C n d : String} {v : Value} {A : Nat → Prop} {s : State} {args : Array Value} (h : va_Z C n d v A s s.heap) (hv : v.isRef = true) : (Cond.isRef (.static C n d)).before args s = true := by
  obtain ⟨cf, kf, fi, f, a, cell, h1, h2, h3, h4, h5, h6, h7, -⟩ := h
  have he : (Term.static C n d).eval args s none [] s = some v := by
    simp [Term.eval, State.fieldNamed?, h1, h2, h4, h5, h6, h7]
  simp only [Cond.before, Cond.holds, Cond.value, he]
  cases v <;> simp_all [Value.isRef]
theorem vx_isRefq {C n d : String} {A : Nat → Prop} {s : State} {args : Array Value} (h : va_Zq C n d A s s.heap) : (Cond.isRef (.static C n d)).before args s = true := by
  rcases h with h | ⟨t, h⟩
  · exact vx_isRef h rfl
  · exact vx_isRef h rfl
/-- the same frame, seen from here: as if the method were called anew in this heap -/
theorem vx_rebase {T : State} (X : Stand p l e R s m args below meth c T locs cells slots) {R' : Room} (hf : R'.frames ≤ R.frames) (hl : R'.locals ≤ R.locals) (hc : cells + R'.cells ≤ R.cells) (hs : slots + R'.slots ≤ R.slots) :
    Stand p l e R' ((T.setVm s.vm).setFrames (.invoking m args :: below)) m args below meth c T [] 0 0 := by
  have htop : (T.setVm s.vm).topJava?.isSome := X.here.top
  have hF : ((T.setVm s.vm).setFrames (.invoking m args :: below)).frames = .invoking m args :: below := State.frames_setFrames _ (State.cur_lt_of_top htop)
  obtain ⟨g₀, hg0⟩ := Option.isSome_iff_exists.mp htop
  obtain ⟨r, hr⟩ := State.topJava?_eq_some.mp hg0
  have hl9 : e.platform.stackLimits (T.setVm s.vm).me = e.platform.stackLimits s.me := X.limits
  have hb9 : (T.setVm s.vm).me.stackBytes = s.me.stackBytes := X.bytes
  refine ⟨X.admits, X.cas, X.clock, hF, ?_, X.hears, X.method, X.code, X.here, X.tail, X.warmed, ?_, ?_, ?_⟩
  · have h := X.room
    have hU : ((T.setVm s.vm).setFrames (.invoking m args :: below)).localsInUse = s.localsInUse := by
      rw [State.localsInUse_invoking hF (meth := meth) (c := c) X.method X.code, State.localsInUse_invoking X.frames X.method X.code]
    simp only [State.hasRoom, Bool.and_eq_true, decide_eq_true_eq] at h ⊢
    obtain ⟨⟨⟨⟨h1, h2, h3, h4, h5, h6⟩, h7⟩, h8⟩, h9⟩ := h
    rw [X.frames, List.length_cons] at h2 h3
    have q1 := X.heapSize
    have q2 := X.used
    simp only [hF, hU, List.length_cons, State.stackLimits_setFrames, State.stackBytes_setFrames, hl9, hb9]
    refine ⟨⟨⟨⟨by omega, by omega, by omega, by omega, by omega, h6⟩, ?_⟩, ?_⟩, X.book⟩
    · show T.heap.size + R'.cells ≤ e.platform.maxCells
      omega
    · show T.slotsUsed + R'.slots ≤ e.platform.maxSlots
      omega
  · rw [State.stackLimits_setFrames]; rfl
  · rw [State.stackBytes_setFrames]; rfl
  · refine ⟨?_, Nat.le_refl _, Nat.le_refl _, ?_, ?_, fun a c9 h9 => ⟨c9, h9, rfl, rfl, fun _ _ => rfl⟩⟩
    · obtain ⟨t, ht, -⟩ := State.frames_cons hr
      show T.setVm s.vm = { ((T.setVm s.vm).setFrames (.invoking m args :: below)).setFrames (T.setVm s.vm).frames with heap := T.heap, slotsUsed := T.slotsUsed }
      rw [State.setFrames_setFrames, State.setFrames_self ht]
      rfl
    · show T.slotsUsed = T.slotsUsed + ((T.heap.toList.drop T.heap.size).map (·.slots.size)).sum
      rw [List.drop_eq_nil_of_le (Nat.le_of_eq Array.length_toList)]
      rfl
    · show ((T.heap.toList.drop T.heap.size).map (·.slots.size)).sum ≤ 0
      rw [List.drop_eq_nil_of_le (Nat.le_of_eq Array.length_toList)]
      exact Nat.le_refl _
/-- 'throw new E()': new; dup; invokespecial; athrow -/
theorem vx_throw0 {cc : ByteArray} {pc : Nat} (hexec : p.tables.exec = Jvm.exec) (hb : c.code = cc) (hl : l.stackTraces = false) {own cls : String} {names : List String} {ik ic mc ms : Nat} {A : Nat → Prop}
    (hown : s.vm.findClass own = some m.cls) (hcls : Bundle.fit cls = true) (hnames : ∀ n ∈ names, Bundle.fit n = true)
    (hk : (Cond.classLink own ik cls).before args s = true) (hini : (Cond.initialized cls).before args s = true) (hat : ∀ w ∈ vx_at0 own ic cls names, w.before args s = true)
    (hgood : ∀ w ∈ Cond.classLink own ik cls :: Cond.initialized cls :: vx_at0 own ic cls names, vx_ot w = true)
    (hU : vx_Zq Bundle.tN "UNASSIGNED_STACK" Bundle.steD A s s.heap) (hN : vx_Zq Bundle.tN "SUPPRESSED_SENTINEL" Bundle.listD A s s.heap) (hS : va_S A s.heap H locs) (hsize : ls.size = c.maxLocals)
    (d0 : decode cc pc = .ok (.new ik, 3)) (d3 : decode cc (pc + 3) = .ok (.dup, 1)) (d4 : decode cc (pc + 4) = .ok (.invokespecial ic, 3)) (d7 : decode cc (pc + 7) = .ok (.athrow, 1))
    (hout : ∀ x ∈ c.exceptionTable.toList, covers x (pc + 7) = false)
    (hRframes : names.length + 3 < R.frames) (hRlocals : (rest.map fun v => v.category).sum + (13 * (names.length + 1) + 42) ≤ R.locals) (hRcells : cells + 1 ≤ R.cells) (hRslots : slots + 6 ≤ R.slots) (hlocks : meth.locks = false)
    (hx : ∀ t : State, s.vm.Alike t.vm → H.size ≤ t.heap.size → (∀ q : Nat, q < H.size → t.heap[q]? = H[q]?) → XC cls s t)
    (hf : ∀ z ∈ locs, free z.base) (hc : cells + 1 ≤ mc) (hs : slots + 6 ≤ ms) :
    W p l e R s m args below meth c H locs cells slots (vx_MQ below Qc XC args s mc ms free) (F0 m pc ls rest) := by
  intro T hT X
  have htr : e.platform.stackTraces = false := (show e.platform.stackTraces = l.stackTraces by rw [X.admits.platform]).trans hl
  have Y := vx_rebase X (R' := { frames := R.frames, locals := R.locals, cells := 1, slots := 6 }) (Nat.le_refl _) (Nat.le_refl _) hRcells hRslots
  obtain ⟨s', hA⟩ : ∃ z, z = (T.setVm s.vm).setFrames (.invoking m args :: below) := ⟨_, rfl⟩
  rw [← hA] at Y
  have hvm : s'.vm = s.vm := by rw [hA]; rfl
  have hhp : s'.heap = H := by rw [hA]; exact hT
  have hW0 : s.WarmedH s'.vm := by rw [hvm]; exact State.WarmedH.refl s
  have hat' : ∀ w ∈ vx_at0 own ic cls names, w.before args s' = true := fun w hw => vx_ot_at hW0 hvm.symm (hgood w (List.mem_cons_of_mem _ (List.mem_cons_of_mem _ hw))) (hat w hw)
  have hk' : (Cond.classLink own ik cls).before args s' = true := vx_ot_at hW0 hvm.symm (hgood _ List.mem_cons_self) hk
  have hini' : (Cond.initialized cls).before args s' = true := vx_ot_at hW0 hvm.symm (hgood _ (List.mem_cons_of_mem _ List.mem_cons_self)) hini
  have hU' : vx_Zq Bundle.tN "UNASSIGNED_STACK" Bundle.steD A s' s'.heap := by rw [hhp]; exact vx_Zq.moved hW0.alike (hU.kept hS.2.1)
  have hN' : vx_Zq Bundle.tN "SUPPRESSED_SENTINEL" Bundle.listD A s' s'.heap := by rw [hhp]; exact vx_Zq.moved hW0.alike (hN.kept hS.2.1)
  have h : ∀ w ∈ Bundle.ownAtoms0 own ic cls names, w.before args s' = true := vx_own hat' (vx_isRefq hU'.1) (vx_isRefq hN'.1) hU'.2.word hN'.2.word
  have hown' : s'.vm.findClass own = some m.cls := by rw [hvm]; exact hown
  have hins : (Cond.instantiable cls 6).before args s' = true := h _ (by simp [Bundle.ownAtoms0])
  obtain ⟨vm₁, cX, kX, hfX, hkX, -, -, X₁, st1⟩ := Y.newCold hexec (own := own) (C := cls) (index := ik) (n := 6) hown' hk' hins hini'
    (g := F0 m pc ls rest) rfl (by rw [hb]; exact d0) (Nat.le_refl _) (Nat.le_refl _)
  generalize hT1 : (T.setVm vm₁).pushCell { cls := cX, slots := kX.instanceTypes.map defaultValue, vm := .none } = T1 at X₁ st1
  have hcat : (Value.ref T.heap.size).category = 1 := rfl
  have hcellA : T1.heap[T.heap.size]? = some (freshCell cX kX) := by rw [← hT1]; exact State.heap_pushCell_size _ _
  have d3' : decode c.code (pc + 3) = .ok (.dup, 1) := by rw [hb]; exact d3
  obtain ⟨U, hsteps, hrun, hend, hW, hsame, ce, hce, hO⟩ := X₁.ctorThrow0 hexec htr (own := own) (cls := cls) (names := names) (ic := ic) hown' hcls hnames h (fun x hx => nomatch hx) hfX hkX hcellA (by rw [hhp, hT]; exact Nat.le_refl _)
    (g := { method := m, pc := pc + 4, locals := ls, stack := .ref T.heap.size :: .ref T.heap.size :: rest, locked := none }) rfl hsize rfl rfl (rest := rest) rfl
    (by rw [hb]; exact d4) (by rw [hb]; exact d7) hout hRframes (by simp only [List.map_cons, List.sum_cons, hcat]; omega) hlocks
  obtain ⟨f1, f2⟩ := vx_frame hsame
  rw [hhp] at f1 f2
  have hWs : s.WarmedH U.vm := State.WarmedH.trans hW0 hW
  have hcl : s.vm.findClass cls = some ce.cls := by
    have h9 := hO.cls
    rw [hvm] at h9
    exact h9
  have hall : s.sameButNew ({ U with vm := s.vm } : State) locs mc ms := by
    subst hA
    obtain ⟨e1, e2⟩ := hsame
    rw [State.setFrames_setFrames] at e1
    have h2 : (T.setVm s.vm).sameButNew ({ U with vm := s.vm } : State) [] (0 + 1) (0 + 6) := ⟨e1, e2⟩
    have h3 := X.same.trans h2
    rw [List.append_nil] at h3
    exact h3.mono hc hs
  refine ⟨U, ?_, .threw T.heap.size, hrun, hend, Or.inr ⟨T.heap.size, rfl, cls, ce, locs, hx U hWs.alike f1 (fun q hq => f2 q hq (fun z hz => nomatch hz)), hce, hO.vm, hcl, hWs, hall, hf⟩⟩
  refine st1 _ ?_
  show Steps p.tables e below (T1.setTop { method := m, pc := pc + 3, locals := ls, stack := .ref T.heap.size :: rest, locked := none }) _
  jvm_step X₁.here [X₁.here.top, hexec, d3', Value.category]
  exact hsteps
/-- 'throw new E("text")': new; dup; ldc; invokespecial; athrow -/
theorem vx_throwS {cc : ByteArray} {pc : Nat} (hexec : p.tables.exec = Jvm.exec) (hb : c.code = cc) (hl : l.stackTraces = false) {own cls text : String} {names : List String} {ik is ic mc ms sa : Nat} {A : Nat → Prop}
    (hown : s.vm.findClass own = some m.cls) (hcls : Bundle.fit cls = true) (hnames : ∀ n ∈ names, Bundle.fit n = true)
    (hk : (Cond.classLink own ik cls).before args s = true) (hini : (Cond.initialized cls).before args s = true) (hstr : vk_R own is text sa s) (hat : ∀ w ∈ vx_atS own ic cls names, w.before args s = true)
    (hgood : ∀ w ∈ Cond.classLink own ik cls :: Cond.initialized cls :: vx_atS own ic cls names, vx_ot w = true)
    (hU : vx_Zq Bundle.tN "UNASSIGNED_STACK" Bundle.steD A s s.heap) (hN : vx_Zq Bundle.tN "SUPPRESSED_SENTINEL" Bundle.listD A s s.heap) (hS : va_S A s.heap H locs) (hsize : ls.size = c.maxLocals)
    (d0 : decode cc pc = .ok (.new ik, 3)) (d3 : decode cc (pc + 3) = .ok (.dup, 1)) (d4 : decode cc (pc + 4) = .ok (.ldc is, 2)) (d6 : decode cc (pc + 6) = .ok (.invokespecial ic, 3)) (d9 : decode cc (pc + 9) = .ok (.athrow, 1))
    (hout : ∀ x ∈ c.exceptionTable.toList, covers x (pc + 9) = false)
    (hRframes : names.length + 3 < R.frames) (hRlocals : (rest.map fun v => v.category).sum + (13 * (names.length + 1) + 43) ≤ R.locals) (hRcells : cells + 1 ≤ R.cells) (hRslots : slots + 6 ≤ R.slots) (hlocks : meth.locks = false)
    (hx : ∀ t : State, s.vm.Alike t.vm → H.size ≤ t.heap.size → (∀ q : Nat, q < H.size → t.heap[q]? = H[q]?) → XC cls s t)
    (hf : ∀ z ∈ locs, free z.base) (hc : cells + 1 ≤ mc) (hs : slots + 6 ≤ ms) :
    W p l e R s m args below meth c H locs cells slots (vx_MQ below Qc XC args s mc ms free) (F0 m pc ls rest) := by
  intro T hT X
  have htr : e.platform.stackTraces = false := (show e.platform.stackTraces = l.stackTraces by rw [X.admits.platform]).trans hl
  have Y := vx_rebase X (R' := { frames := R.frames, locals := R.locals, cells := 1, slots := 6 }) (Nat.le_refl _) (Nat.le_refl _) hRcells hRslots
  obtain ⟨s', hA⟩ : ∃ z, z = (T.setVm s.vm).setFrames (.invoking m args :: below) := ⟨_, rfl⟩
  rw [← hA] at Y
  have hvm : s'.vm = s.vm := by rw [hA]; rfl
  have hhp : s'.heap = H := by rw [hA]; exact hT
  have hW0 : s.WarmedH s'.vm := by rw [hvm]; exact State.WarmedH.refl s
  have hat' : ∀ w ∈ vx_atS own ic cls names, w.before args s' = true := fun w hw => vx_ot_at hW0 hvm.symm (hgood w (List.mem_cons_of_mem _ (List.mem_cons_of_mem _ hw))) (hat w hw)
  have hk' : (Cond.classLink own ik cls).before args s' = true := vx_ot_at hW0 hvm.symm (hgood _ List.mem_cons_self) hk
  have hini' : (Cond.initialized cls).before args s' = true := vx_ot_at hW0 hvm.symm (hgood _ (List.mem_cons_of_mem _ List.mem_cons_self)) hini
  have hU' : vx_Zq Bundle.tN "UNASSIGNED_STACK" Bundle.steD A s' s'.heap := by rw [hhp]; exact vx_Zq.moved hW0.alike (hU.kept hS.2.1)
  have hN' : vx_Zq Bundle.tN "SUPPRESSED_SENTINEL" Bundle.listD A s' s'.heap := by rw [hhp]; exact vx_Zq.moved hW0.alike (hN.kept hS.2.1)
  have h : ∀ w ∈ Bundle.ownAtoms own ic cls names, w.before args s' = true := vx_own hat' (vx_isRefq hU'.1) (vx_isRefq hN'.1) hU'.2.word hN'.2.word
  have hown' : s'.vm.findClass own = some m.cls := by rw [hvm]; exact hown
  have hins : (Cond.instantiable cls 6).before args s' = true := h _ (by simp [Bundle.ownAtoms])
  obtain ⟨vm₁, cX, kX, hfX, hkX, -, -, X₁, st1⟩ := Y.newCold hexec (own := own) (C := cls) (index := ik) (n := 6) hown' hk' hins hini'
    (g := F0 m pc ls rest) rfl (by rw [hb]; exact d0) (Nat.le_refl _) (Nat.le_refl _)
  generalize hT1 : (T.setVm vm₁).pushCell { cls := cX, slots := kX.instanceTypes.map defaultValue, vm := .none } = T1 at X₁ st1
  have hcat : (Value.ref T.heap.size).category = 1 := rfl
  have hcellA : T1.heap[T.heap.size]? = some (freshCell cX kX) := by rw [← hT1]; exact State.heap_pushCell_size _ _
  have d3' : decode c.code (pc + 3) = .ok (.dup, 1) := by rw [hb]; exact d3
  have d4' : decode c.code (pc + 4) = .ok (.ldc is, 2) := by rw [hb]; exact d4
  have hstr' : vk_R own is text sa s' := vk_R.warm hW0 hstr
  obtain ⟨U, hsteps, hrun, hend, hW, hsame, ce, hce, hO⟩ := X₁.ctorThrowS hexec htr (own := own) (cls := cls) (names := names) (ic := ic) hown' hcls hnames h (fun x hx => nomatch hx) hfX hkX hcellA (by rw [hhp, hT]; exact Nat.le_refl _) (msg := .ref sa) rfl
    (g := { method := m, pc := pc + 6, locals := ls, stack := .ref sa :: .ref T.heap.size :: .ref T.heap.size :: rest, locked := none }) rfl hsize rfl rfl (rest := rest) rfl
    (by rw [hb]; exact d6) (by rw [hb]; exact d9) hout hRframes (by simp only [List.map_cons, List.sum_cons, hcat]; omega) hlocks
  obtain ⟨f1, f2⟩ := vx_frame hsame
  rw [hhp] at f1 f2
  have hWs : s.WarmedH U.vm := State.WarmedH.trans hW0 hW
  have hcl : s.vm.findClass cls = some ce.cls := by
    have h9 := hO.cls
    rw [hvm] at h9
    exact h9
  have hall : s.sameButNew ({ U with vm := s.vm } : State) locs mc ms := by
    subst hA
    obtain ⟨e1, e2⟩ := hsame
    rw [State.setFrames_setFrames] at e1
    have h2 : (T.setVm s.vm).sameButNew ({ U with vm := s.vm } : State) [] (0 + 1) (0 + 6) := ⟨e1, e2⟩
    have h3 := X.same.trans h2
    rw [List.append_nil] at h3
    exact h3.mono hc hs
  refine ⟨U, ?_, .threw T.heap.size, hrun, hend, Or.inr ⟨T.heap.size, rfl, cls, ce, locs, hx U hWs.alike f1 (fun q hq => f2 q hq (fun z hz => nomatch hz)), hce, hO.vm, hcl, hWs, hall, hf⟩⟩
  refine st1 _ ?_
  show Steps p.tables e below (T1.setTop { method := m, pc := pc + 3, locals := ls, stack := .ref T.heap.size :: rest, locked := none }) _
  jvm_step X₁.here [X₁.here.top, hexec, d3', Value.category]
  exact X₁.ldcString hexec (own := own) (text := text) (index := is) (a := sa) hown' hstr'.1 hstr'.2
    (g := { method := m, pc := pc + 4, locals := ls, stack := .ref T.heap.size :: .ref T.heap.size :: rest, locked := none }) rfl d4' _ hsteps
/-- 'throw new E("text")', the text by a wide index -/
theorem vx_throwSW {cc : ByteArray} {pc : Nat} (hexec : p.tables.exec = Jvm.exec) (hb : c.code = cc) (hl : l.stackTraces = false) {own cls text : String} {names : List String} {ik is ic mc ms sa : Nat} {A : Nat → Prop}
    (hown : s.vm.findClass own = some m.cls) (hcls : Bundle.fit cls = true) (hnames : ∀ n ∈ names, Bundle.fit n = true)
    (hk : (Cond.classLink own ik cls).before args s = true) (hini : (Cond.initialized cls).before args s = true) (hstr : vk_R own is text sa s) (hat : ∀ w ∈ vx_atS own ic cls names, w.before args s = true)
    (hgood : ∀ w ∈ Cond.classLink own ik cls :: Cond.initialized cls :: vx_atS own ic cls names, vx_ot w = true)
    (hU : vx_Zq Bundle.tN "UNASSIGNED_STACK" Bundle.steD A s s.heap) (hN : vx_Zq Bundle.tN "SUPPRESSED_SENTINEL" Bundle.listD A s s.heap) (hS : va_S A s.heap H locs) (hsize : ls.size = c.maxLocals)
    (d0 : decode cc pc = .ok (.new ik, 3)) (d3 : decode cc (pc + 3) = .ok (.dup, 1)) (d4 : decode cc (pc + 4) = .ok (.ldc_w is, 3)) (d7 : decode cc (pc + 7) = .ok (.invokespecial ic, 3)) (d10 : decode cc (pc + 10) = .ok (.athrow, 1))
    (hout : ∀ x ∈ c.exceptionTable.toList, covers x (pc + 10) = false)
    (hRframes : names.length + 3 < R.frames) (hRlocals : (rest.map fun v => v.category).sum + (13 * (names.length + 1) + 43) ≤ R.locals) (hRcells : cells + 1 ≤ R.cells) (hRslots : slots + 6 ≤ R.slots) (hlocks : meth.locks = false)
    (hx : ∀ t : State, s.vm.Alike t.vm → H.size ≤ t.heap.size → (∀ q : Nat, q < H.size → t.heap[q]? = H[q]?) → XC cls s t)
    (hf : ∀ z ∈ locs, free z.base) (hc : cells + 1 ≤ mc) (hs : slots + 6 ≤ ms) :
    W p l e R s m args below meth c H locs cells slots (vx_MQ below Qc XC args s mc ms free) (F0 m pc ls rest) := by
  intro T hT X
  have htr : e.platform.stackTraces = false := (show e.platform.stackTraces = l.stackTraces by rw [X.admits.platform]).trans hl
  have Y := vx_rebase X (R' := { frames := R.frames, locals := R.locals, cells := 1, slots := 6 }) (Nat.le_refl _) (Nat.le_refl _) hRcells hRslots
  obtain ⟨s', hA⟩ : ∃ z, z = (T.setVm s.vm).setFrames (.invoking m args :: below) := ⟨_, rfl⟩
  rw [← hA] at Y
  have hvm : s'.vm = s.vm := by rw [hA]; rfl
  have hhp : s'.heap = H := by rw [hA]; exact hT
  have hW0 : s.WarmedH s'.vm := by rw [hvm]; exact State.WarmedH.refl s
  have hat' : ∀ w ∈ vx_atS own ic cls names, w.before args s' = true := fun w hw => vx_ot_at hW0 hvm.symm (hgood w (List.mem_cons_of_mem _ (List.mem_cons_of_mem _ hw))) (hat w hw)
  have hk' : (Cond.classLink own ik cls).before args s' = true := vx_ot_at hW0 hvm.symm (hgood _ List.mem_cons_self) hk
  have hini' : (Cond.initialized cls).before args s' = true := vx_ot_at hW0 hvm.symm (hgood _ (List.mem_cons_of_mem _ List.mem_cons_self)) hini
  have hU' : vx_Zq Bundle.tN "UNASSIGNED_STACK" Bundle.steD A s' s'.heap := by rw [hhp]; exact vx_Zq.moved hW0.alike (hU.kept hS.2.1)
  have hN' : vx_Zq Bundle.tN "SUPPRESSED_SENTINEL" Bundle.listD A s' s'.heap := by rw [hhp]; exact vx_Zq.moved hW0.alike (hN.kept hS.2.1)
  have h : ∀ w ∈ Bundle.ownAtoms own ic cls names, w.before args s' = true := vx_own hat' (vx_isRefq hU'.1) (vx_isRefq hN'.1) hU'.2.word hN'.2.word
  have hown' : s'.vm.findClass own = some m.cls := by rw [hvm]; exact hown
  have hins : (Cond.instantiable cls 6).before args s' = true := h _ (by simp [Bundle.ownAtoms])
  obtain ⟨vm₁, cX, kX, hfX, hkX, -, -, X₁, st1⟩ := Y.newCold hexec (own := own) (C := cls) (index := ik) (n := 6) hown' hk' hins hini'
    (g := F0 m pc ls rest) rfl (by rw [hb]; exact d0) (Nat.le_refl _) (Nat.le_refl _)
  generalize hT1 : (T.setVm vm₁).pushCell { cls := cX, slots := kX.instanceTypes.map defaultValue, vm := .none } = T1 at X₁ st1
  have hcat : (Value.ref T.heap.size).category = 1 := rfl
  have hcellA : T1.heap[T.heap.size]? = some (freshCell cX kX) := by rw [← hT1]; exact State.heap_pushCell_size _ _
  have d3' : decode c.code (pc + 3) = .ok (.dup, 1) := by rw [hb]; exact d3
  have d4' : decode c.code (pc + 4) = .ok (.ldc_w is, 3) := by rw [hb]; exact d4
  have hstr' : vk_R own is text sa s' := vk_R.warm hW0 hstr
  obtain ⟨U, hsteps, hrun, hend, hW, hsame, ce, hce, hO⟩ := X₁.ctorThrowS hexec htr (own := own) (cls := cls) (names := names) (ic := ic) hown' hcls hnames h (fun x hx => nomatch hx) hfX hkX hcellA (by rw [hhp, hT]; exact Nat.le_refl _) (msg := .ref sa) rfl
    (g := { method := m, pc := pc + 7, locals := ls, stack := .ref sa :: .ref T.heap.size :: .ref T.heap.size :: rest, locked := none }) rfl hsize rfl rfl (rest := rest) rfl
    (by rw [hb]; exact d7) (by rw [hb]; exact d10) hout hRframes (by simp only [List.map_cons, List.sum_cons, hcat]; omega) hlocks
  obtain ⟨f1, f2⟩ := vx_frame hsame
  rw [hhp] at f1 f2
  have hWs : s.WarmedH U.vm := State.WarmedH.trans hW0 hW
  have hcl : s.vm.findClass cls = some ce.cls := by
    have h9 := hO.cls
    rw [hvm] at h9
    exact h9
  have hall : s.sameButNew ({ U with vm := s.vm } : State) locs mc ms := by
    subst hA
    obtain ⟨e1, e2⟩ := hsame
    rw [State.setFrames_setFrames] at e1
    have h2 : (T.setVm s.vm).sameButNew ({ U with vm := s.vm } : State) [] (0 + 1) (0 + 6) := ⟨e1, e2⟩
    have h3 := X.same.trans h2
    rw [List.append_nil] at h3
    exact h3.mono hc hs
  refine ⟨U, ?_, .threw T.heap.size, hrun, hend, Or.inr ⟨T.heap.size, rfl, cls, ce, locs, hx U hWs.alike f1 (fun q hq => f2 q hq (fun z hz => nomatch hz)), hce, hO.vm, hcl, hWs, hall, hf⟩⟩
  refine st1 _ ?_
  show Steps p.tables e below (T1.setTop { method := m, pc := pc + 3, locals := ls, stack := .ref T.heap.size :: rest, locked := none }) _
  jvm_step X₁.here [X₁.here.top, hexec, d3', Value.category]
  exact X₁.ldcStringW hexec (own := own) (text := text) (index := is) (a := sa) hown' hstr'.1 hstr'.2
    (g := { method := m, pc := pc + 4, locals := ls, stack := .ref T.heap.size :: .ref T.heap.size :: rest, locked := none }) rfl d4' _ hsteps
end Ends
section Bodies
variable {l : Launch}
theorem vx_ofW {y : MethodName} {ws ws' : List Cond} {rm : Room} {Pc : Array Value → State → Prop} {Qc : Array Value → State → Outcome → State → Prop} {XC : String → State → State → Prop} {mc ms : Nat} {free : Addr → Prop} {cc : ByteArray} {maxL : Nat} {ret : Option FieldType}
    (hy : plainName y.cls = true) (hw : ws = Cond.code y cc maxL ret :: ws')
    (body : ∀ p e s m args below meth c s₁, BodyLoose p l y (headSpec ws rm) cc maxL ret e s m args below meth c s₁ → c.maxLocals = maxL → (∀ x ∈ c.exceptionTable.toList, False) → Pc args s →
      W p l e (headSpec ws rm).room s m args below meth c s.heap [] 0 0 (vx_MQ below Qc XC args s mc ms free) (entryFrame m args maxL)) : vx_Met l y ws rm Pc Qc XC mc ms free := by
  refine MetFree.of_bodyS (code := cc) (maxLocals := maxL) (ret := ret) hy ?_ ?_
  · intro args s m h hn
    obtain ⟨meth, c, h1, h2, h3, h4, h5, h6, -, -⟩ := Cond.code_spec hn (atoms_spec (ws := ws) h _ (by rw [hw]; exact List.mem_cons_self))
    exact ⟨meth, c, h1, h2, h3, h4, h5, h6⟩
  · intro p e s m args below meth c s₁ B hml hP _
    have hh0 : s₁.heap = s.heap := by rw [B.state]; rfl
    have ht : ∀ x ∈ c.exceptionTable.toList, False := by
      obtain ⟨meth9, c9, h1, h2, -, -, -, -, h7, -⟩ := Cond.code_spec B.named (atoms_spec (ws := ws) B.pre _ (by rw [hw]; exact List.mem_cons_self))
      cases Option.some.inj (h1.symm.trans B.method)
      cases Option.some.inj (h2.symm.trans (Stand.of_body B).code)
      intro x hx
      rw [Array.isEmpty_iff.mp h7] at hx
      cases hx
    obtain ⟨t, a1, o, b1, b2, b3⟩ := body p e s m args below meth c s₁ B hml ht hP s₁ hh0 (Stand.of_body B)
    exact ⟨t, o, a1, b1, b2, b3⟩
/-- the table of a body with handlers -/
theorem vx_table {p : Program} {x y : MethodName} {S : Spec} {cc bytes : ByteArray} {maxL maxL' : Nat} {ret ret' : Option FieldType} {e : Env} {s s₁ : State} {m : MethodId} {args : Array Value} {below : List Frame} {meth : Method} {c : Code} {hh : List (Nat × Nat × Nat × Nat)}
    (B : BodyLoose p l y S cc maxL ret e s m args below meth c s₁) (h : (Cond.codeWith y bytes maxL' ret' hh).before args s = true) : c.exceptionTable.toList = tableOf hh := by
  obtain ⟨m9, meth9, c9, hn9, h1, h2, -, -, h6, -⟩ := Cond.codeWith_spec h
  cases Option.some.inj (hn9.symm.trans B.named)
  cases Option.some.inj (h1.symm.trans B.method)
  cases Option.some.inj (h2.symm.trans (Stand.of_body B).code)
  rw [← h6, table_eq]
end Bodies
end VXA
/-! ===== END ===== -/
/-! ===== BEGIN a static call of a method with an exception table ===== -/
section VXS
variable {p : Program} {l : Launch} {e : Env} {R : Room} {s : State} {m : MethodId} {args : Array Value} {below : List Frame} {meth : Method} {c : Code} {T : State} {H : Heap} {locs : List Loc} {cells slots : Nat}
abbrev vx_CSW (R : Room) (s : State) (args : Array Value) (own : String) (index : Nat) (y : MethodName) (bytes : ByteArray) (maxL : Nat) (ret : Option FieldType) (hh : List (Nat × Nat × Nat × Nat)) (ws : List Cond) (rm : Room) (mc ms n : Nat) : Prop :=
  (rm.cells = mc ∧ rm.slots = ms ∧ rm.frames + 1 ≤ R.frames ∧ 8 + (maxL + 11) + rm.locals ≤ R.locals ∧ (∀ w ∈ ws, ∀ (a' : Array Value) (U : State), s.WarmedH U.vm → w.before a' U = true) ∧ Cond.codeWith y bytes maxL ret hh ∈ ws) ∧
  (Cond.codeWith y bytes maxL ret hh).before args s = true ∧ (Cond.initialized y.cls).before args s = true ∧ (y.cls ≠ "java/lang/invoke/MethodHandle" ∧ y.cls ≠ "java/lang/invoke/VarHandle") ∧
  (∀ sig, parseMethodDescriptor y.desc = some sig → n = sig.parameters.length) ∧ (Cond.methodLink own index y).before args s = true ∧ (Cond.static y).before args s = true
theorem vx_cwSW {own : String} {index maxL mc ms : Nat} {y : MethodName} {bytes : ByteArray} {ret : Option FieldType} {hh : List (Nat × Nat × Nat × Nat)} {Ts ws ws' : List Cond} {rm : Room} (n : Nat) (ht : ∀ w ∈ Ts, w.before args s = true) (hT : GoodIn Ts (va_wsS own index y ws)) (hw : ws = Cond.codeWith y bytes maxL ret hh :: ws') (hrc : rm.cells = mc) (hrs : rm.slots = ms)
    (hd : y.cls ≠ "java/lang/invoke/MethodHandle" ∧ y.cls ≠ "java/lang/invoke/VarHandle" ∧ (parseMethodDescriptor y.desc).map (fun d => d.parameters.length) = some n) (hR : rm.frames + 1 ≤ R.frames ∧ 8 + (maxL + 11) + rm.locals ≤ R.locals) :
    vx_CSW R s args own index y bytes maxL ret hh ws rm mc ms n := by
  have ok : ∀ w ∈ va_wsS own index y ws, w.before args s = true := fun w h => ht w (hT w h).1
  have hG : GoodIn Ts ws := fun w h => hT w (by unfold va_wsS; exact List.mem_append_right _ h)
  have hc : Cond.codeWith y bytes maxL ret hh ∈ ws := by rw [hw]; exact List.mem_cons_self
  refine ⟨⟨hrc, hrs, hR.1, hR.2, pay_in ht hG, hc⟩, ht _ (hG _ hc).1, ok _ (by simp [va_wsS]), ⟨hd.1, hd.2.1⟩, fun sig h => ?_, ok _ (by simp [va_wsS]), ok _ (by simp [va_wsS])⟩
  have h2 := hd.2.2
  rw [h] at h2
  exact (Option.some.inj h2).symm
theorem vx_callSW (X : Stand p l e R s m args below meth c T locs cells slots) (hexec : p.tables.exec = Jvm.exec) {own : String} {index : Nat} {y : MethodName} {bytes : ByteArray} {maxL : Nat} {ret : Option FieldType} {hh : List (Nat × Nat × Nat × Nat)}
    (hown : s.vm.findClass own = some m.cls) (hlink : (Cond.methodLink own index y).before args s = true) (hstat : (Cond.static y).before args s = true) (hinit : (Cond.initialized y.cls).before args s = true)
    (hcode : (Cond.codeWith y bytes maxL ret hh).before args s = true) (hy : y.cls ≠ "java/lang/invoke/MethodHandle" ∧ y.cls ≠ "java/lang/invoke/VarHandle")
    {W9 : Nat} {Pre : Pt → Array Value → Prop} {Post : Pt → Array Value → Option Value → Pt → Prop} (hK : Back l R p e below s args y 3 W9 Pre Post)
    {g : JFrame} (hg : g.method = m) (hsize : g.locals.size = c.maxLocals) {argsL rest : List Value} (hlen : ∀ sig, parseMethodDescriptor y.desc = some sig → argsL.length = sig.parameters.length)
    (hstack : g.stack = argsL.reverse ++ rest) (hW : 2 * g.monitorRoom + (rest.map fun v => v.category).sum ≤ W9) (hdg : decode c.code g.pc = .ok (.invokestatic index, 3))
    (hpre : ∀ vm₁, s.WarmedH vm₁ → Pre ⟨T.setVm vm₁, locs, cells, slots⟩ argsL.toArray) :
    ∃ (v : Option Value) (vm₁ : Vm) (B : Pt), s.WarmedH vm₁ ∧ Stand p l e R s m args below meth c B.U B.locs B.cells B.slots ∧ Post ⟨T.setVm vm₁, locs, cells, slots⟩ argsL.toArray v B ∧
      ∀ target, Steps p.tables e below (B.U.setTop { g with pc := g.pc + 3, stack := v.toList ++ rest }) target → Steps p.tables e below (T.setTop g) target := by
  obtain ⟨mk, methM, cM, hnamed, hmethM, -, -, -, -, -, -, hsigM⟩ := Cond.codeWith_spec hcode
  have hstatic : methM.isStatic = true := Cond.static_spec hnamed hmethM hstat
  obtain ⟨kP, hkP, -⟩ := className_of_methodNamed hnamed
  have hinitP : kP.init = .initialized := Cond.initialized_spec (findClass_of_methodNamed hnamed) hkP hinit
  obtain ⟨vm₁, X₁, hstep₁⟩ := X.invokestatic hexec hown hlink hnamed hmethM hstatic hkP hinitP hy (g := g) hg (argsL := argsL) (rest := rest) (hlen _ hsigM) hstack hdg
  obtain ⟨v, B, X', hpost, hsteps⟩ := hK m meth c ⟨T.setVm vm₁, locs, cells, slots⟩ { g with stack := rest } (.invokestatic index) mk argsL.toArray X₁ hg hsize hdg hW (X₁.named hnamed) (hpre vm₁ X₁.warmed)
  exact ⟨v, vm₁, B, X₁.warmed, X', hpost, fun target h => hstep₁ _ fun acts => by rw [doInvoke_state]; exact hsteps.trans h⟩
theorem vx_runSW {y : MethodName} {bytes cc : ByteArray} {maxL nL mc ms n index : Nat} {ret : Option FieldType} {hh : List (Nat × Nat × Nat × Nat)} {ws : List Cond} {rm : Room} {Pc : Array Value → State → Prop} {Qc : Array Value → State → Outcome → State → Prop} {free : Addr → Prop} {Ts : List Cond} {own : String} {As rest : List Value} {g : JFrame}
    (S : CallFix p m c cc nL s args Ts own) (hM : Met l y ws rm Pc Qc mc ms free) (cw : vx_CSW R s args own index y bytes maxL ret hh ws rm mc ms n) (hp : PreS s H Pc As)
    (hg : g.method = m) (hn : As.length = n) (hsize : g.locals.size = nL) (hstack : g.stack = As.reverse ++ rest) (hW : 2 * g.monitorRoom + (rest.map fun v => v.category).sum ≤ 8) (hdg : decode cc g.pc = .ok (.invokestatic index, 3)) (hf : cells + mc ≤ R.cells ∧ slots + ms ≤ R.slots) :
    va_Run p l e R s m args below meth c H locs cells slots mc ms g rest (Qc As.toArray) (free) := by
  obtain ⟨⟨hrc, hrs, hfr, hlo, hws, hcw⟩, hcode, hini, hy, hlen, hl, hstt⟩ := cw
  have hK : Back l R p e below s args y 3 8 (PreOf R mc ms Pc) (PostOf Qc mc ms free) := va_backW (hh := hh) (bytes := bytes) (maxL := maxL) (ret := ret) hM hp.1 hrc hrs hfr hlo hws hcw (fun a' U hW => word_at hW (Or.inl (by first | rfl | simp [Cond.onTables, Cond.keeps, Cond.steady])) hini)
  obtain ⟨hx, hb, hml, ho, -⟩ := S
  intro T hT X
  obtain ⟨v, vm₁, ⟨U', l2, c2, s2⟩, hW₁, X', ⟨g', mk, t, L, e1, e2, hq, h1, hL, h2, h3⟩, st⟩ := vx_callSW X hx (hh := hh) (bytes := bytes) (maxL := maxL) (ret := ret) ho hl hstt hini hcode hy hK hg (hsize.trans hml.symm) (argsL := As) (rest := rest) (fun sig h => hn.trans (hlen sig h)) hstack hW (by rw [hb]; exact hdg)
    (fun vm₁ hW₁ => ⟨hf.1, hf.2, hp.2 (T.setVm vm₁) hT hW₁⟩)
  dsimp only [Pt.U, Pt.locs, Pt.cells, Pt.slots] at X' e1 e2 h1 h2 h3 st
  subst h1; subst h2; subst h3
  exact ⟨v, (T.setVm vm₁).calling g' mk As.toArray, t, U', L, hT, X', hL, e1, e2, hq, st⟩
/-- not caught here, past rows that name other classes: it goes on to the caller -/
theorem vx_outP {p : Program} {l : Launch} {e : Env} {R : Room} {s : State} {m : MethodId} {args : Array Value} {below : List Frame} {meth : Method} {c : Code} {H : Heap} {locs : List Loc} {cells slots : Nat} {free : Addr → Prop} {ls : Array Slot} {rest : List Value} {Qc : Array Value → State → Outcome → State → Prop} {XC : String → State → State → Prop}
    {pc : Nat} {own E : String} {ce : Cell} {q : Addr} {mc ms : Nat} (hown : s.vm.findClass own = some m.cls) (hlocks : meth.locks = false)
    (hpass : ∀ z ∈ c.exceptionTable.toList, covers z pc = false ∨ (z.catchType ≠ 0 ∧ ∃ nm : String, (Cond.classLink own z.catchType nm).before args s = true ∧ va_Nc E nm s)) (hcell : H[q]? = some ce) (hv : ce.vm = .none) (hcl : s.vm.findClass E = some ce.cls)
    (hx : ∀ t : State, t.heap = H → s.vm.Alike t.vm → XC E s t) (hf : ∀ z ∈ locs, free z.base) (hc : cells ≤ mc) (hs : slots ≤ ms) :
    vx_W p l e R s m args below meth c H locs cells slots (vx_MQ below Qc XC args s mc ms free) (F0 m pc ls rest) q := by
  intro T hT X
  have hpl : e.platform.magicAccessors = ({} : Platform).magicAccessors := by rw [X.admits.platform]
  obtain ⟨vm', hW', X', st⟩ := X.outThrough hlocks q (g := F0 m pc ls rest) rfl rfl rfl (cell := ce) (by rw [hT]; exact hcell) (by rw [hv]; rfl)
    (by obtain ⟨k9, h9, -⟩ := Vm.findClass_spec hcl; exact ⟨k9, h9⟩) (fun z hz => by
      rcases hpass z hz with h | ⟨hz0, nm, hl1, hn1⟩
      · exact Or.inl h
      · obtain ⟨c6, hc6, hcl6⟩ := Cond.classLink_spec hown hl1 e.platform hpl
        obtain ⟨a8, b8, h1, h2, h3⟩ := hn1
        cases Option.some.inj (h1.symm.trans hcl)
        cases Option.some.inj (h2.symm.trans hc6)
        exact Or.inr ⟨hz0, _, hcl6, h3⟩)
  obtain ⟨g₀, hfr⟩ := X'.frames_eq
  have hcell9 : ((T.setVm vm').setFrames (.throwing q :: below)).heap[q]? = some ce := by
    show T.heap[q]? = some ce
    rw [hT]; exact hcell
  have hend : Ended ((T.setVm vm').setFrames (.throwing q :: below)) below (.threw q) := State.frames_setFrames _ (State.cur_lt_of_frames hfr)
  refine ⟨(T.setVm vm').setFrames (.throwing q :: below), ?_, .threw q, X'.here.running, hend, Or.inr ⟨q, rfl, E, ce, locs, hx _ hT (X'.ends _).1.alike, hcell9, hv, hcl, (X'.ends _).1, (X'.ends _).2.mono hc hs, hf⟩⟩
  rw [X.pushThrowing_eq]
  exact st
/-- a thing of a world lies in the heap -/
theorem vx_lt {D : va_G} {cl : List vw_C} {ws : va_W} {H1 : Heap} (h : va_P D cl ws H1) {k : Nat} {q : Nat × va_E} (hk : ws[k]? = some q) : q.1 < H1.size := (h k q hk).lt
end VXS
/-! ===== END ===== -/
/-! ===== BEGIN methods with a table of their own: called by a name, returning or throwing ===== -/
section VXH
/-! vx_backW, vx_callVX, vx_callSX, vx_callVW, vx_runVW, vx_runVX, vx_runSX, vx_ofWH follow the same proofs as their sisters above (Free/Laws.lean, Shelf42/LK1.lean); vx_outP calls Shelf42/NT130.lean (outThrough). -/
section
variable {l : Launch} {R : Room} {p : Program} {e : Env} {below : List Frame} {s : State} {sargs : Array Value} {y : MethodName} {len W9 : Nat}
theorem vx_backW {ws : List Cond} {rm : Room} {Pc : Array Value → State → Prop} {Qc : Array Value → State → Outcome → State → Prop} {XC : String → State → State → Prop} {mc ms : Nat} {free : Addr → Prop} {bytes : ByteArray} {maxL : Nat} {ret : Option FieldType} {hh : List (Nat × Nat × Nat × Nat)}
    (hM : vx_Met l y ws rm Pc Qc XC mc ms free) (hblind : FrameBlind Pc) (hrc : rm.cells = mc) (hrs : rm.slots = ms)
    (hframes : rm.frames + 1 ≤ R.frames) (hlocals : W9 + (maxL + 11) + rm.locals ≤ R.locals)
    (hws : ∀ w ∈ ws, ∀ a' U, s.WarmedH U.vm → w.before a' U = true) (hcode : Cond.codeWith y bytes maxL ret hh ∈ ws) (hinit : ∀ a' U, s.WarmedH U.vm → (Cond.initialized y.cls).before a' U = true) :
    vx_Back l R p e below s sargs y len W9 (PreOf R mc ms Pc) (PostOf Qc mc ms free) (vx_Post XC mc ms free) := by
  intro m meth c A g ig mk a X hg hsize hdg hW hn hp
  have h1 : (headSpec ws rm).pre.before a A.U = true := atoms_intro fun w hw => hws w hw _ _ X.warmed
  have h2 : (Cond.codeWith y bytes maxL ret hh).before a A.U = true := hws _ hcode _ _ X.warmed
  have h3 : (Cond.initialized y.cls).before a A.U = true := hinit _ _ X.warmed
  have h4 : A.cells + (headSpec ws rm).room.cells ≤ R.cells := by rw [show (headSpec ws rm).room.cells = mc from hrc]; exact hp.1
  have h5 : A.slots + (headSpec ws rm).room.slots ≤ R.slots := by rw [show (headSpec ws rm).room.slots = ms from hrs]; exact hp.2.1
  have hPc : Pc a (A.U.calling g mk a) := hblind _ _ _ _ hp.2.2
  obtain ⟨U, Ls, c0, s0⟩ := A
  dsimp only [Pt.U, Pt.locs, Pt.cells, Pt.slots] at h1 h2 h3 h4 h5 X hn hPc ⊢
  obtain ⟨m9, methY, cY, hn9, hmY, hcY, -, hlY, -⟩ := Cond.codeWith_spec h2
  cases Option.some.inj (hn9.symm.trans hn)
  obtain ⟨kY, hkY, -⟩ := className_of_methodNamed hn
  have hinitY : kY.init = .initialized := Cond.initialized_spec (findClass_of_methodNamed hn) hkY h3
  have h : At U g.method c below := by rw [hg]; exact X.here
  have hlocals9 : W9 + (maxL + 11) + (headSpec ws rm).room.locals ≤ R.locals := hlocals
  have happ : (headSpec ws rm).appliesLoose y e.platform (U.calling g mk a) = true :=
    Spec.appliesLoose_calling (g := g) h hdg hn hkY hinitY
      (X.room_calling (g := g) (R' := (headSpec ws rm).room) hsize hmY hcY hframes (by rw [hlY]; omega) h4 h5) h1
  obtain ⟨mid, hmid⟩ := h.above
  have hfr : (U.setTop g).frames = (.java g :: mid) ++ below := by rw [State.frames_setTop' g h.top, hmid]; rfl
  obtain ⟨o, s₂, hsteps, -, hend, hq⟩ := Steps.callFree hM p X.admits X.cas X.clock (acts := []) hfr happ hPc trivial
  have hq' : vx_Q Qc XC mc ms free a (U.calling g mk a) o s₂ := hq
  rw [State.frames_setTop' g h.top] at hend
  obtain ⟨g₀, hg0⟩ := Option.isSome_iff_exists.mp h.top
  obtain ⟨r, hr⟩ := State.topJava?_eq_some.mp hg0
  have hr' : (({ U with heap := s₂.heap, slotsUsed := s₂.slotsUsed } : State).setVm s₂.vm).frames = .java g₀ :: r := hr
  rcases hq' with ⟨hqc, L, hfe, hL⟩ | ⟨q, rfl, E, ce, L, hx, hce, hcv, hcl, hW₂, hsm, hL⟩
  · obtain ⟨⟨v, rfl⟩, hW₂, e2, q2, q3, q4, q5, q6⟩ := id hfe
    have e3 : s₂ = ({ (U.calling g mk a).setFrames s₂.frames with heap := s₂.heap, slotsUsed := s₂.slotsUsed } : State).setVm s₂.vm := by
      have : s₂ = ({ s₂ with vm := (U.calling g mk a).vm } : State).setVm s₂.vm := rfl
      rw [e2] at this
      exact this
    obtain ⟨c₂, i₂, len₂, hc₂, hd₂, hf₂⟩ := hend
    have hW' : U.WarmedH s₂.vm := hW₂
    have hcc : c₂ = c := by
      have h1 : s₂.code? g.method = U.code? g.method := by
        rw [State.code?_eq, State.code?_eq, hW'.alike.method?]
      exact Option.some.inj (hc₂.symm.trans (h1.trans h.code))
    subst hcc
    have hlen : len₂ = len := by rw [hdg] at hd₂; cases hd₂; rfl
    subst hlen
    have hs₂ : s₂ = (({ U with heap := s₂.heap, slotsUsed := s₂.slotsUsed } : State).setVm s₂.vm).setTop { g with pc := g.pc + len₂, stack := v.toList ++ g.stack } := by
      refine e3.trans ?_
      rw [hf₂, State.calling_eq h.top, State.setFrames_setFrames, State.setTop_of_frames _ hr', hr]
      rfl
    have hsame : U.sameButNew ({ U with heap := s₂.heap, slotsUsed := s₂.slotsUsed } : State) L mc ms := by
      refine ⟨?_, q2, q3, q4, q5, q6⟩
      obtain ⟨t, ht, -⟩ := State.frames_cons hr
      show ({ U with heap := s₂.heap, slotsUsed := s₂.slotsUsed } : State) = { U.setFrames U.frames with heap := s₂.heap, slotsUsed := s₂.slotsUsed }
      rw [State.setFrames_self ht]
    subst hg
    refine Or.inl ⟨v, ⟨(({ U with heap := s₂.heap, slotsUsed := s₂.slotsUsed } : State).setVm s₂.vm), Ls ++ L, c0 + mc, s0 + ms⟩,
      ⟨X.admits, X.cas, X.clock, X.frames, X.room, X.hears, X.method, X.code, (X.here.setHeapUsed s₂.heap s₂.slotsUsed).setVm hW'.alike, X.tail, State.WarmedH.trans X.warmed hW', X.limits, X.bytes, X.same.trans (hsame.setVm s.vm)⟩,
      ⟨g, mk, s₂, L, rfl, rfl, hqc, rfl, hL, rfl, rfl⟩, ?_⟩
    show Steps p.tables e below _ ((({ U with heap := s₂.heap, slotsUsed := s₂.slotsUsed } : State).setVm s₂.vm).setTop { g with pc := g.pc + len₂, stack := v.toList ++ g.stack })
    rw [← hs₂]
    exact hsteps
  · obtain ⟨e2, q2, q3, q4, q5, q6⟩ := id hsm
    have e3 : s₂ = ({ (U.calling g mk a).setFrames s₂.frames with heap := s₂.heap, slotsUsed := s₂.slotsUsed } : State).setVm s₂.vm := by
      have : s₂ = ({ s₂ with vm := (U.calling g mk a).vm } : State).setVm s₂.vm := rfl
      rw [e2] at this
      exact this
    have hf₂ : s₂.frames = .throwing q :: .java g :: U.frames.tail := hend
    have hW' : U.WarmedH s₂.vm := hW₂
    have hs₂ : s₂ = ((({ U with heap := s₂.heap, slotsUsed := s₂.slotsUsed } : State).setVm s₂.vm).setTop g).pushFrame (.throwing q) := by
      refine e3.trans ?_
      rw [hf₂, State.calling_eq h.top, State.setFrames_setFrames, State.pushFrame, State.frames_setTop _ hr', State.setTop_of_frames _ hr', State.setFrames_setFrames, hr]
      rfl
    have hsame : U.sameButNew ({ U with heap := s₂.heap, slotsUsed := s₂.slotsUsed } : State) L mc ms := by
      refine ⟨?_, q2, q3, q4, q5, q6⟩
      obtain ⟨t, ht, -⟩ := State.frames_cons hr
      show ({ U with heap := s₂.heap, slotsUsed := s₂.slotsUsed } : State) = { U.setFrames U.frames with heap := s₂.heap, slotsUsed := s₂.slotsUsed }
      rw [State.setFrames_self ht]
    subst hg
    refine Or.inr ⟨q, ⟨(({ U with heap := s₂.heap, slotsUsed := s₂.slotsUsed } : State).setVm s₂.vm), Ls ++ L, c0 + mc, s0 + ms⟩,
      ⟨X.admits, X.cas, X.clock, X.frames, X.room, X.hears, X.method, X.code, (X.here.setHeapUsed s₂.heap s₂.slotsUsed).setVm hW'.alike, X.tail, State.WarmedH.trans X.warmed hW', X.limits, X.bytes, X.same.trans (hsame.setVm s.vm)⟩,
      ⟨g, mk, s₂, L, E, ce, rfl, rfl, hx, hce, hcv, hcl, rfl, hL, rfl, rfl⟩, ?_⟩
    show Steps p.tables e below _ (((({ U with heap := s₂.heap, slotsUsed := s₂.slotsUsed } : State).setVm s₂.vm).setTop g).pushFrame (.throwing q))
    rw [← hs₂]
    exact hsteps
end
variable {p : Program} {l : Launch} {e : Env} {R : Room} {s : State} {m : MethodId} {args : Array Value} {below : List Frame} {meth : Method} {c : Code} {T : State} {H : Heap} {locs : List Loc} {cells slots : Nat}
theorem vx_callVX (X : Stand p l e R s m args below meth c T locs cells slots) (hexec : p.tables.exec = Jvm.exec) {own C : String} {index : Nat} {y : MethodName} {bytes : ByteArray} {maxL : Nat} {ret : Option FieldType} {hh : List (Nat × Nat × Nat × Nat)}
    (hown : s.vm.findClass own = some m.cls) (hlink : (Cond.methodLink own index y).before args s = true) (hinst : (Cond.instanceMethod y).before args s = true) (hsel : (Cond.selects C y y).before args s = true)
    (hcode : (Cond.codeWith y bytes maxL ret hh).before args s = true) (hy : y.cls ≠ "java/lang/invoke/MethodHandle" ∧ y.cls ≠ "java/lang/invoke/VarHandle")
    {W9 : Nat} {Pre : Pt → Array Value → Prop} {Post : Pt → Array Value → Option Value → Pt → Prop} {PostX : Pt → Array Value → Addr → Pt → Prop} (hK : vx_Back l R p e below s args y 3 W9 Pre Post PostX)
    {b : Addr} {cellB : Cell} (hcell : T.heap[b]? = some cellB) (hobj : cellB.vm.isStatics = false) (hcls : s.vm.findClass C = some cellB.cls)
    {g : JFrame} (hg : g.method = m) (hsize : g.locals.size = c.maxLocals) {argsL rest : List Value} (hlen : ∀ sig, parseMethodDescriptor y.desc = some sig → argsL.length = sig.parameters.length)
    (hstack : g.stack = argsL.reverse ++ .ref b :: rest) (hW : 2 * g.monitorRoom + (rest.map fun v => v.category).sum ≤ W9) (hdg : decode c.code g.pc = .ok (.invokevirtual index, 3))
    (hpre : ∀ vm₁, s.WarmedH vm₁ → Pre ⟨T.setVm vm₁, locs, cells, slots⟩ (Value.ref b :: argsL).toArray) :
    (∃ (v : Option Value) (vm₁ : Vm) (B : Pt), s.WarmedH vm₁ ∧ Stand p l e R s m args below meth c B.U B.locs B.cells B.slots ∧ Post ⟨T.setVm vm₁, locs, cells, slots⟩ (Value.ref b :: argsL).toArray v B ∧
      ∀ target, Steps p.tables e below (B.U.setTop { g with pc := g.pc + 3, stack := v.toList ++ rest }) target → Steps p.tables e below (T.setTop g) target) ∨
    (∃ (q : Addr) (vm₁ : Vm) (B : Pt), s.WarmedH vm₁ ∧ Stand p l e R s m args below meth c B.U B.locs B.cells B.slots ∧ PostX ⟨T.setVm vm₁, locs, cells, slots⟩ (Value.ref b :: argsL).toArray q B ∧
      Steps p.tables e below (T.setTop g) ((B.U.setTop { g with stack := rest }).pushFrame (.throwing q))) := by
  obtain ⟨mk, methM, hnamed, hmethM, hstM, habM⟩ := Cond.instanceMethod_spec hinst
  obtain ⟨m8, methM', cM, hn8, hmethM', -, -, -, -, -, -, hsigM⟩ := Cond.codeWith_spec hcode
  cases Option.some.inj (hn8.symm.trans hnamed)
  cases hmethM.symm.trans hmethM'
  obtain ⟨c2, r2, m2, q1, q2, q3, q4, kP, hkP, hkPi⟩ := Cond.selects_spec hsel
  cases hcls.symm.trans q1
  cases (State.methodFound?_of_named hnamed hy).symm.trans q2
  cases hnamed.symm.trans q3
  have hselP : selectMethod e.platform s.vm cellB.cls mk = .method mk := by rw [Launch.admits_selectMethod X.admits]; exact q4
  obtain ⟨vm₁, X₁, hstep₁⟩ := X.invokevirtual hexec hown hlink hnamed hmethM hstM hkP hkPi hy (a := b) (cell := cellB) hcell
    (fun z h => by rw [h] at hobj; cases hobj) hselP hmethM habM hkP hkPi (g := g) hg (argsL := argsL) (rest := rest) (hlen _ hsigM) hstack hdg
  rcases hK m meth c ⟨T.setVm vm₁, locs, cells, slots⟩ { g with stack := rest } (.invokevirtual index) mk (Value.ref b :: argsL).toArray X₁ hg hsize hdg hW (X₁.named hnamed) (hpre vm₁ X₁.warmed) with ⟨v, B, X', hpost, hsteps⟩ | ⟨q, B, X', hpost, hsteps⟩
  · exact Or.inl ⟨v, vm₁, B, X₁.warmed, X', hpost, fun target h => hstep₁ _ fun acts => by rw [doInvoke_state]; exact hsteps.trans h⟩
  · exact Or.inr ⟨q, vm₁, B, X₁.warmed, X', hpost, hstep₁ _ fun acts => by rw [doInvoke_state]; exact hsteps⟩
theorem vx_callSX (X : Stand p l e R s m args below meth c T locs cells slots) (hexec : p.tables.exec = Jvm.exec) {own : String} {index : Nat} {y : MethodName} {bytes : ByteArray} {maxL : Nat} {ret : Option FieldType} {hh : List (Nat × Nat × Nat × Nat)}
    (hown : s.vm.findClass own = some m.cls) (hlink : (Cond.methodLink own index y).before args s = true) (hstat : (Cond.static y).before args s = true) (hinit : (Cond.initialized y.cls).before args s = true)
    (hcode : (Cond.codeWith y bytes maxL ret hh).before args s = true) (hy : y.cls ≠ "java/lang/invoke/MethodHandle" ∧ y.cls ≠ "java/lang/invoke/VarHandle")
    {W9 : Nat} {Pre : Pt → Array Value → Prop} {Post : Pt → Array Value → Option Value → Pt → Prop} {PostX : Pt → Array Value → Addr → Pt → Prop} (hK : vx_Back l R p e below s args y 3 W9 Pre Post PostX)
    {g : JFrame} (hg : g.method = m) (hsize : g.locals.size = c.maxLocals) {argsL rest : List Value} (hlen : ∀ sig, parseMethodDescriptor y.desc = some sig → argsL.length = sig.parameters.length)
    (hstack : g.stack = argsL.reverse ++ rest) (hW : 2 * g.monitorRoom + (rest.map fun v => v.category).sum ≤ W9) (hdg : decode c.code g.pc = .ok (.invokestatic index, 3))
    (hpre : ∀ vm₁, s.WarmedH vm₁ → Pre ⟨T.setVm vm₁, locs, cells, slots⟩ argsL.toArray) :
    (∃ (v : Option Value) (vm₁ : Vm) (B : Pt), s.WarmedH vm₁ ∧ Stand p l e R s m args below meth c B.U B.locs B.cells B.slots ∧ Post ⟨T.setVm vm₁, locs, cells, slots⟩ argsL.toArray v B ∧
      ∀ target, Steps p.tables e below (B.U.setTop { g with pc := g.pc + 3, stack := v.toList ++ rest }) target → Steps p.tables e below (T.setTop g) target) ∨
    (∃ (q : Addr) (vm₁ : Vm) (B : Pt), s.WarmedH vm₁ ∧ Stand p l e R s m args below meth c B.U B.locs B.cells B.slots ∧ PostX ⟨T.setVm vm₁, locs, cells, slots⟩ argsL.toArray q B ∧
      Steps p.tables e below (T.setTop g) ((B.U.setTop { g with stack := rest }).pushFrame (.throwing q))) := by
  obtain ⟨mk, methM, cM, hnamed, hmethM, -, -, -, -, -, -, hsigM⟩ := Cond.codeWith_spec hcode
  have hstatic : methM.isStatic = true := Cond.static_spec hnamed hmethM hstat
  obtain ⟨kP, hkP, -⟩ := className_of_methodNamed hnamed
  have hinitP : kP.init = .initialized := Cond.initialized_spec (findClass_of_methodNamed hnamed) hkP hinit
  obtain ⟨vm₁, X₁, hstep₁⟩ := X.invokestatic hexec hown hlink hnamed hmethM hstatic hkP hinitP hy (g := g) hg (argsL := argsL) (rest := rest) (hlen _ hsigM) hstack hdg
  rcases hK m meth c ⟨T.setVm vm₁, locs, cells, slots⟩ { g with stack := rest } (.invokestatic index) mk argsL.toArray X₁ hg hsize hdg hW (X₁.named hnamed) (hpre vm₁ X₁.warmed) with ⟨v, B, X', hpost, hsteps⟩ | ⟨q, B, X', hpost, hsteps⟩
  · exact Or.inl ⟨v, vm₁, B, X₁.warmed, X', hpost, fun target h => hstep₁ _ fun acts => by rw [doInvoke_state]; exact hsteps.trans h⟩
  · exact Or.inr ⟨q, vm₁, B, X₁.warmed, X', hpost, hstep₁ _ fun acts => by rw [doInvoke_state]; exact hsteps⟩
theorem vx_callVW (X : Stand p l e R s m args below meth c T locs cells slots) (hexec : p.tables.exec = Jvm.exec) {own C : String} {index : Nat} {y : MethodName} {bytes : ByteArray} {maxL : Nat} {ret : Option FieldType} {hh : List (Nat × Nat × Nat × Nat)}
    (hown : s.vm.findClass own = some m.cls) (hlink : (Cond.methodLink own index y).before args s = true) (hinst : (Cond.instanceMethod y).before args s = true) (hsel : (Cond.selects C y y).before args s = true)
    (hcode : (Cond.codeWith y bytes maxL ret hh).before args s = true) (hy : y.cls ≠ "java/lang/invoke/MethodHandle" ∧ y.cls ≠ "java/lang/invoke/VarHandle")
    {W9 : Nat} {Pre : Pt → Array Value → Prop} {Post : Pt → Array Value → Option Value → Pt → Prop} (hK : Back l R p e below s args y 3 W9 Pre Post)
    {b : Addr} {cellB : Cell} (hcell : T.heap[b]? = some cellB) (hobj : cellB.vm.isStatics = false) (hcls : s.vm.findClass C = some cellB.cls)
    {g : JFrame} (hg : g.method = m) (hsize : g.locals.size = c.maxLocals) {argsL rest : List Value} (hlen : ∀ sig, parseMethodDescriptor y.desc = some sig → argsL.length = sig.parameters.length)
    (hstack : g.stack = argsL.reverse ++ .ref b :: rest) (hW : 2 * g.monitorRoom + (rest.map fun v => v.category).sum ≤ W9) (hdg : decode c.code g.pc = .ok (.invokevirtual index, 3))
    (hpre : ∀ vm₁, s.WarmedH vm₁ → Pre ⟨T.setVm vm₁, locs, cells, slots⟩ (Value.ref b :: argsL).toArray) :
    ∃ (v : Option Value) (vm₁ : Vm) (B : Pt), s.WarmedH vm₁ ∧ Stand p l e R s m args below meth c B.U B.locs B.cells B.slots ∧ Post ⟨T.setVm vm₁, locs, cells, slots⟩ (Value.ref b :: argsL).toArray v B ∧
      ∀ target, Steps p.tables e below (B.U.setTop { g with pc := g.pc + 3, stack := v.toList ++ rest }) target → Steps p.tables e below (T.setTop g) target := by
  obtain ⟨mk, methM, hnamed, hmethM, hstM, habM⟩ := Cond.instanceMethod_spec hinst
  obtain ⟨m8, methM', cM, hn8, hmethM', -, -, -, -, -, -, hsigM⟩ := Cond.codeWith_spec hcode
  cases Option.some.inj (hn8.symm.trans hnamed)
  cases hmethM.symm.trans hmethM'
  obtain ⟨c2, r2, m2, q1, q2, q3, q4, kP, hkP, hkPi⟩ := Cond.selects_spec hsel
  cases hcls.symm.trans q1
  cases (State.methodFound?_of_named hnamed hy).symm.trans q2
  cases hnamed.symm.trans q3
  have hselP : selectMethod e.platform s.vm cellB.cls mk = .method mk := by rw [Launch.admits_selectMethod X.admits]; exact q4
  obtain ⟨vm₁, X₁, hstep₁⟩ := X.invokevirtual hexec hown hlink hnamed hmethM hstM hkP hkPi hy (a := b) (cell := cellB) hcell
    (fun z h => by rw [h] at hobj; cases hobj) hselP hmethM habM hkP hkPi (g := g) hg (argsL := argsL) (rest := rest) (hlen _ hsigM) hstack hdg
  obtain ⟨v, B, X', hpost, hsteps⟩ := hK m meth c ⟨T.setVm vm₁, locs, cells, slots⟩ { g with stack := rest } (.invokevirtual index) mk (Value.ref b :: argsL).toArray X₁ hg hsize hdg hW (X₁.named hnamed) (hpre vm₁ X₁.warmed)
  exact ⟨v, vm₁, B, X₁.warmed, X', hpost, fun target h => hstep₁ _ fun acts => by rw [doInvoke_state]; exact hsteps.trans h⟩
abbrev vx_CVW (R : Room) (s : State) (args : Array Value) (own C : String) (index : Nat) (y : MethodName) (bytes : ByteArray) (maxL : Nat) (ret : Option FieldType) (hh : List (Nat × Nat × Nat × Nat)) (ws : List Cond) (rm : Room) (mc ms n : Nat) : Prop :=
  (rm.cells = mc ∧ rm.slots = ms ∧ rm.frames + 1 ≤ R.frames ∧ 8 + (maxL + 11) + rm.locals ≤ R.locals ∧ (∀ w ∈ ws, ∀ (a' : Array Value) (U : State), s.WarmedH U.vm → w.before a' U = true) ∧ Cond.codeWith y bytes maxL ret hh ∈ ws) ∧
  (Cond.codeWith y bytes maxL ret hh).before args s = true ∧ (Cond.initialized y.cls).before args s = true ∧ (y.cls ≠ "java/lang/invoke/MethodHandle" ∧ y.cls ≠ "java/lang/invoke/VarHandle") ∧
  (∀ sig, parseMethodDescriptor y.desc = some sig → n = sig.parameters.length) ∧ (Cond.methodLink own index y).before args s = true ∧ (Cond.instanceMethod y).before args s = true ∧ (Cond.selects C y y).before args s = true
theorem vx_cwVW {own C : String} {index maxL mc ms : Nat} {y : MethodName} {bytes : ByteArray} {ret : Option FieldType} {hh : List (Nat × Nat × Nat × Nat)} {Ts ws ws' : List Cond} {rm : Room} (n : Nat) (ht : ∀ w ∈ Ts, w.before args s = true) (hT : GoodIn Ts (wsV own index C y ws)) (hw : ws = Cond.codeWith y bytes maxL ret hh :: ws') (hrc : rm.cells = mc) (hrs : rm.slots = ms)
    (hd : y.cls = C ∧ y.cls ≠ "java/lang/invoke/MethodHandle" ∧ y.cls ≠ "java/lang/invoke/VarHandle" ∧ (parseMethodDescriptor y.desc).map (fun d => d.parameters.length) = some n) (hR : rm.frames + 1 ≤ R.frames ∧ 8 + (maxL + 11) + rm.locals ≤ R.locals) :
    vx_CVW R s args own C index y bytes maxL ret hh ws rm mc ms n := by
  obtain ⟨hC, hd⟩ := hd
  subst hC
  have ok : ∀ w ∈ wsV own index y.cls y ws, w.before args s = true := fun w h => ht w (hT w h).1
  have hG : GoodIn Ts ws := fun w h => hT w (by unfold wsV; exact List.mem_append_right _ h)
  have hc : Cond.codeWith y bytes maxL ret hh ∈ ws := by rw [hw]; exact List.mem_cons_self
  refine ⟨⟨hrc, hrs, hR.1, hR.2, pay_in ht hG, hc⟩, ht _ (hG _ hc).1, ok _ (by simp [wsV]), ⟨hd.1, hd.2.1⟩, fun sig h => ?_, ok _ (by simp [wsV]), ok _ (by simp [wsV]), ok _ (by simp [wsV])⟩
  have h2 := hd.2.2
  rw [h] at h2
  exact (Option.some.inj h2).symm
theorem vx_runVW {y : MethodName} {bytes cc : ByteArray} {maxL nL mc ms n index : Nat} {ret : Option FieldType} {hh : List (Nat × Nat × Nat × Nat)} {ws : List Cond} {rm : Room} {Pc : Array Value → State → Prop} {Qc : Array Value → State → Outcome → State → Prop} {free : Addr → Prop} {Ts : List Cond} {own C : String} {b : Addr} {As rest : List Value} {g : JFrame}
    (S : CallFix p m c cc nL s args Ts own) (hM : Met l y ws rm Pc Qc mc ms free) (cw : vx_CVW R s args own C index y bytes maxL ret hh ws rm mc ms n) (hp : PreV s H C b Pc As)
    (hg : g.method = m) (hn : As.length = n) (hsize : g.locals.size = nL) (hstack : g.stack = As.reverse ++ .ref b :: rest) (hW : 2 * g.monitorRoom + (rest.map fun v => v.category).sum ≤ 8) (hdg : decode cc g.pc = .ok (.invokevirtual index, 3)) (hf : cells + mc ≤ R.cells ∧ slots + ms ≤ R.slots) :
    va_Run p l e R s m args below meth c H locs cells slots mc ms g rest (Qc (Value.ref b :: As).toArray) free := by
  obtain ⟨⟨hrc, hrs, hfr, hlo, hws, hcw⟩, hcode, hini, hy, hlen, hl, hin, hse⟩ := cw
  have hK : Back l R p e below s args y 3 8 (PreOf R mc ms Pc) (PostOf Qc mc ms free) := va_backW (hh := hh) (bytes := bytes) (maxL := maxL) (ret := ret) hM hp.1 hrc hrs hfr hlo hws hcw (fun a' U hW => word_at hW (Or.inl (by first | rfl | simp [Cond.onTables, Cond.keeps, Cond.steady])) hini)
  obtain ⟨hx, hb, hml, ho, -⟩ := S
  obtain ⟨-, ⟨cellB, hcB, hoB, hclB⟩, hPc⟩ := hp
  intro T hT X
  obtain ⟨v, vm₁, ⟨U', l2, c2, s2⟩, hW₁, X', ⟨g', mk, t, L, e1, e2, hq, h1, hL, h2, h3⟩, st⟩ := vx_callVW X hx (C := C) (hh := hh) (bytes := bytes) (maxL := maxL) (ret := ret) ho hl hin hse hcode hy hK (by rw [hT]; exact hcB) hoB hclB hg (hsize.trans hml.symm) (argsL := As) (rest := rest) (fun sig h => hn.trans (hlen sig h)) hstack hW (by rw [hb]; exact hdg)
    (fun vm₁ hW₁ => ⟨hf.1, hf.2, hPc (T.setVm vm₁) hT hW₁⟩)
  dsimp only [Pt.U, Pt.locs, Pt.cells, Pt.slots] at X' e1 e2 h1 h2 h3 st
  subst h1; subst h2; subst h3
  exact ⟨v, (T.setVm vm₁).calling g' mk (Value.ref b :: As).toArray, t, U', L, hT, X', hL, e1, e2, hq, st⟩
section
variable {y : MethodName} {bytes cc : ByteArray} {maxL nL mc ms n index : Nat} {ret : Option FieldType} {ws : List Cond} {rm : Room} {Pc : Array Value → State → Prop} {Qc : Array Value → State → Outcome → State → Prop} {XC : String → State → State → Prop} {free : Addr → Prop} {Ts : List Cond} {own C : String} {b : Addr} {As rest : List Value} {g : JFrame}
theorem vx_runVX {hh : List (Nat × Nat × Nat × Nat)} (S : CallFix p m c cc nL s args Ts own) (hM : vx_Met l y ws rm Pc Qc XC mc ms free) (cw : vx_CVW R s args own C index y bytes maxL ret hh ws rm mc ms n) (hp : PreV s H C b Pc As)
    (hg : g.method = m) (hn : As.length = n) (hsize : g.locals.size = nL) (hstack : g.stack = As.reverse ++ .ref b :: rest) (hW : 2 * g.monitorRoom + (rest.map fun v => v.category).sum ≤ 8) (hdg : decode cc g.pc = .ok (.invokevirtual index, 3)) (hf : cells + mc ≤ R.cells ∧ slots + ms ≤ R.slots) :
    vx_Run p l e R s m args below meth c H locs cells slots mc ms g rest (Qc (Value.ref b :: As).toArray) XC free := by
  obtain ⟨⟨hrc, hrs, hfr, hlo, hws, hcw⟩, hcode, hini, hy, hlen, hl, hin, hse⟩ := cw
  have hK : vx_Back l R p e below s args y 3 8 (PreOf R mc ms Pc) (PostOf Qc mc ms free) (vx_Post XC mc ms free) := vx_backW (hh := hh) (bytes := bytes) (maxL := maxL) (ret := ret) hM hp.1 hrc hrs hfr hlo hws hcw (fun a' U hW => word_at hW (Or.inl (by first | rfl | simp [Cond.onTables, Cond.keeps, Cond.steady])) hini)
  obtain ⟨hx, hb, hml, ho, -⟩ := S
  obtain ⟨-, ⟨cellB, hcB, hoB, hclB⟩, hPc⟩ := hp
  intro T hT X
  rcases vx_callVX X hx (C := C) (hh := hh) (bytes := bytes) (maxL := maxL) (ret := ret) ho hl hin hse hcode hy hK (by rw [hT]; exact hcB) hoB hclB hg (hsize.trans hml.symm) (argsL := As) (rest := rest) (fun sig h => hn.trans (hlen sig h)) hstack hW (by rw [hb]; exact hdg)
    (fun vm₁ hW₁ => ⟨hf.1, hf.2, hPc (T.setVm vm₁) hT hW₁⟩) with ⟨v, vm₁, ⟨U', l2, c2, s2⟩, hW₁, X', ⟨g', mk, t, L, e1, e2, hq, h1, hL, h2, h3⟩, st⟩ | ⟨q, vm₁, ⟨U', l2, c2, s2⟩, hW₁, X', ⟨g', mk, t, L, E, ce, e1, e2, hq, hce, hcv, hcl, h1, hL, h2, h3⟩, st⟩
  · dsimp only [Pt.U, Pt.locs, Pt.cells, Pt.slots] at X' e1 e2 h1 h2 h3 st
    subst h1; subst h2; subst h3
    exact Or.inl ⟨v, (T.setVm vm₁).calling g' mk (Value.ref b :: As).toArray, t, U', L, hT, X', hL, e1, e2, hq, st⟩
  · dsimp only [Pt.U, Pt.locs, Pt.cells, Pt.slots] at X' e1 e2 h1 h2 h3 st hcl
    subst h1; subst h2; subst h3
    exact Or.inr ⟨q, (T.setVm vm₁).calling g' mk (Value.ref b :: As).toArray, t, U', L, E, ce, hT, X', hL, e1, e2, hq, hce, hcv, vx_cls hW₁ hcl, st⟩
theorem vx_runSX {hh : List (Nat × Nat × Nat × Nat)} (S : CallFix p m c cc nL s args Ts own) (hM : vx_Met l y ws rm Pc Qc XC mc ms free) (cw : vx_CSW R s args own index y bytes maxL ret hh ws rm mc ms n) (hp : PreS s H Pc As)
    (hg : g.method = m) (hn : As.length = n) (hsize : g.locals.size = nL) (hstack : g.stack = As.reverse ++ rest) (hW : 2 * g.monitorRoom + (rest.map fun v => v.category).sum ≤ 8) (hdg : decode cc g.pc = .ok (.invokestatic index, 3)) (hf : cells + mc ≤ R.cells ∧ slots + ms ≤ R.slots) :
    vx_Run p l e R s m args below meth c H locs cells slots mc ms g rest (Qc As.toArray) XC free := by
  obtain ⟨⟨hrc, hrs, hfr, hlo, hws, hcw⟩, hcode, hini, hy, hlen, hl, hstt⟩ := cw
  have hK : vx_Back l R p e below s args y 3 8 (PreOf R mc ms Pc) (PostOf Qc mc ms free) (vx_Post XC mc ms free) := vx_backW (hh := hh) (bytes := bytes) (maxL := maxL) (ret := ret) hM hp.1 hrc hrs hfr hlo hws hcw (fun a' U hW => word_at hW (Or.inl (by first | rfl | simp [Cond.onTables, Cond.keeps, Cond.steady])) hini)
  obtain ⟨hx, hb, hml, ho, -⟩ := S
  intro T hT X
  rcases vx_callSX X hx (hh := hh) (bytes := bytes) (maxL := maxL) (ret := ret) ho hl hstt hini hcode hy hK hg (hsize.trans hml.symm) (argsL := As) (rest := rest) (fun sig h => hn.trans (hlen sig h)) hstack hW (by rw [hb]; exact hdg)
    (fun vm₁ hW₁ => ⟨hf.1, hf.2, hp.2 (T.setVm vm₁) hT hW₁⟩) with ⟨v, vm₁, ⟨U', l2, c2, s2⟩, hW₁, X', ⟨g', mk, t, L, e1, e2, hq, h1, hL, h2, h3⟩, st⟩ | ⟨q, vm₁, ⟨U', l2, c2, s2⟩, hW₁, X', ⟨g', mk, t, L, E, ce, e1, e2, hq, hce, hcv, hcl, h1, hL, h2, h3⟩, st⟩
  · dsimp only [Pt.U, Pt.locs, Pt.cells, Pt.slots] at X' e1 e2 h1 h2 h3 st
    subst h1; subst h2; subst h3
    exact Or.inl ⟨v, (T.setVm vm₁).calling g' mk As.toArray, t, U', L, hT, X', hL, e1, e2, hq, st⟩
  · dsimp only [Pt.U, Pt.locs, Pt.cells, Pt.slots] at X' e1 e2 h1 h2 h3 st hcl
    subst h1; subst h2; subst h3
    exact Or.inr ⟨q, (T.setVm vm₁).calling g' mk As.toArray, t, U', L, E, ce, hT, X', hL, e1, e2, hq, hce, hcv, vx_cls hW₁ hcl, st⟩
end
end VXH
theorem vx_ofWH {l : Launch} {y : MethodName} {ws ws' : List Cond} {rm : Room} {Pc : Array Value → State → Prop} {Qc : Array Value → State → Outcome → State → Prop} {XC : String → State → State → Prop} {mc ms : Nat} {free : Addr → Prop} {cc : ByteArray} {maxL : Nat} {ret : Option FieldType} {hh : List (Nat × Nat × Nat × Nat)}
    (hy : plainName y.cls = true) (hw : ws = Cond.codeWith y cc maxL ret hh :: ws')
    (body : ∀ p e s m args below meth c s₁, BodyLoose p l y (headSpec ws rm) cc maxL ret e s m args below meth c s₁ → c.maxLocals = maxL → Pc args s →
      W p l e (headSpec ws rm).room s m args below meth c s.heap [] 0 0 (vx_MQ below Qc XC args s mc ms free) (entryFrame m args maxL)) : vx_Met l y ws rm Pc Qc XC mc ms free := by
  refine MetFree.of_bodyS (code := cc) (maxLocals := maxL) (ret := ret) hy ?_ ?_
  · intro args s m h hn
    obtain ⟨m9, meth, c, hn9, h1, h2, h3, h4, -, h5, h6, -⟩ := Cond.codeWith_spec (atoms_spec (ws := ws) h _ (by rw [hw]; exact List.mem_cons_self))
    cases hn.symm.trans hn9
    exact ⟨meth, c, h1, h2, h3, h4, h5, h6⟩
  · intro p e s m args below meth c s₁ B hml hP _
    have hh0 : s₁.heap = s.heap := by rw [B.state]; rfl
    obtain ⟨t, a1, o, b1, b2, b3⟩ := body p e s m args below meth c s₁ B hml hP s₁ hh0 (Stand.of_body B)
    exact ⟨t, o, a1, b1, b2, b3⟩
/-! ===== END ===== -/

/-! ===== BEGIN what the machine throws by itself, no traces kept ===== -/
section VXM
set_option maxHeartbeats 1000000 in
/-- the machine throws cls with the message text, no traces kept: from its note over the frame g to 'throwing' over the same frame (follows the proofs of Stand.vmThrowsMessage, Shelf/KitTracedVmS.lean, and Stand.throwsMessageColdBareV, StandMessageColdV.lean, without the step out of the frame) -/
theorem vx_vmAt {p : Program} {l : Launch} {e : Env} {R : Room} {s : State} {m₀ : MethodId} {args : Array Value} {below : List Frame} {meth : Method} {c : Code} {W : State} {locs : List Loc} {cells slots : Nat}
    (X : Stand p l e R s m₀ args below meth c W locs cells slots) (hexec : p.tables.exec = Jvm.exec) (htr : e.platform.stackTraces = false) {cls : String} {names : List String} {text : String}
    (hcls : Bundle.fit cls = true) (hnames : ∀ n ∈ names, Bundle.fit n = true) (hsoe : (cls == "java/lang/StackOverflowError") = false) (hoom : (cls == "java/lang/OutOfMemoryError") = false)
    (h : ∀ a ∈ Bundle.messageArmAtoms cls names, a.before args s = true)
    (hlocs : ∀ x ∈ locs, ∀ cell, s.heap[x.base]? = some cell → cell.vm.isStatics = false)
    (htext : (text == notModelled) = false) (hlimit : ¬ (stringBytes (stringToUtf16 text)).size > e.platform.arrayLengthLimit) (hheap : ¬ (stringBytes (stringToUtf16 text)).size * componentBytes .byte > e.platform.maxHeapBytes)
    {g : JFrame} (hg : g.method = m₀) (hsize : g.locals.size = c.maxLocals)
    (hRframes : names.length + 4 < R.frames) (hRlocals : 2 * g.monitorRoom + (g.stack.map fun v => v.category).sum + 10240 ≤ R.locals) (hshort : 13 * names.length + 55 ≤ 10240)
    (hRcells : cells + 3 ≤ R.cells) (hRslots : slots + ((stringBytes (stringToUtf16 text)).size + 4 + 6) ≤ R.slots) (hlocks : meth.locks = false) :
    ∃ (S : State) (q : Addr) (ce : Cell), (∀ target, Steps p.tables e below ((S.setTop g).pushFrame (.throwing q)) target → Steps p.tables e below ((W.setTop g).pushFrame (.throwNew cls (some text) none)) target) ∧
      Stand p l e R s m₀ args below meth c S locs (cells + 3) (slots + ((stringBytes (stringToUtf16 text)).size + 4 + 6)) ∧ S.heap[q]? = some ce ∧ s.vm.findClass cls = some ce.cls ∧ ce.vm = .none := by
  have howns : e.platform.frameOwnsMonitors = true := by rw [X.admits.platform]
  have hfin : e.platform.finalization = false := by rw [X.admits.platform]
  have hpl : e.platform.magicAccessors = ({} : Platform).magicAccessors := by rw [X.admits.platform]
  have a : ∀ x, x ∈ Bundle.messageArmAtoms cls names → x.holds args s none s [] = true := fun x hx => h x hx
  obtain ⟨T, Z0, L, -, Y⟩ := ThrowableC.of_atoms (args := args) howns hfin hpl (fun x hx => h x (by simp [Bundle.messageArmAtoms, hx]))
  obtain ⟨Z, M, LZ, LM, hnZ⟩ := Init0T.ofS_atoms (args := args) hpl L Y (fun x hx => h x (by simp [Bundle.messageArmAtoms, hx]))
  obtain ⟨P1, Ps, hlen, L1, hL, hP1m, hlink1, hlink⟩ := Bundle.chainS (args := args) hpl hnZ names cls hcls hnames (fun x hx => h x (by simp [Bundle.messageArmAtoms, hx]))
  obtain ⟨Zs, LZs, hn4, hfitv, hfitc⟩ := StringT.of_atoms (args := args) (fun x hx => h x (by simp [Bundle.messageArmAtoms, hx]))
  have hfound : s.vm.findClass cls = some P1.m.cls := findClass_of_methodNamed hP1m
  obtain ⟨c1, kX, hc1, hk, hord, -, -, hn6⟩ := Cond.instantiable_spec (a (.instantiable cls 6) (by simp [Bundle.messageArmAtoms]))
  cases Option.some.inj (hc1.symm.trans hfound)
  have hinit := Cond.initialized_spec hfound hk (a (.initialized cls) (by simp [Bundle.messageArmAtoms]))
  have hctor : kX.findMethod "<init>" "(Ljava/lang/String;)V" = some P1.m.idx := findMethod_of_methodNamed hP1m hk
  have hsel0 : selectMethod e.platform s.vm P1.m.cls T.fill0 = .method T.fill0 := by
    obtain ⟨c2, r2, m2, q1, q2, q3, q4, -⟩ := Cond.selects_spec (a (.selects cls Bundle.tFill0 Bundle.tFill0) (by simp [Bundle.messageArmAtoms]))
    cases Option.some.inj (q1.symm.trans hfound)
    cases Option.some.inj (q2.symm.trans (State.methodFound?_of_named Y.fill0 (by decide)))
    cases Option.some.inj (q3.symm.trans Y.fill0)
    rw [Launch.admits_selectMethod X.admits]; exact q4
  have hselF : selectMethod e.platform s.vm P1.m.cls T.fill = .method T.fill := by
    obtain ⟨c2, r2, m2, q1, q2, q3, q4, -⟩ := Cond.selects_spec (a (.selects cls Bundle.tFill Bundle.tFill) (by simp [Bundle.messageArmAtoms]))
    cases Option.some.inj (q1.symm.trans hfound)
    cases Option.some.inj (q2.symm.trans (State.methodFound?_of_named Y.fill (by decide)))
    cases Option.some.inj (q3.symm.trans Y.fill)
    rw [Launch.admits_selectMethod X.admits]; exact q4
  obtain ⟨cellS0, hcS0, hiss⟩ := Y.statics
  obtain ⟨u0, hu0⟩ := Cond.staticRefV Y.unassigned L.unassignedStatic L.statics hcS0 hiss (a (.isRef (.static Bundle.tN "UNASSIGNED_STACK" Bundle.steD)) (by simp [Bundle.messageArmAtoms]))
  obtain ⟨sen, hsen⟩ := Cond.staticRefV Y.sentinel L.sentinelStatic L.statics hcS0 hiss (a (.isRef (.static Bundle.tN "SUPPRESSED_SENTINEL" Bundle.listD)) (by simp [Bundle.messageArmAtoms]))
  obtain ⟨ci198, i198, fB, hk198, hg198, ha198, hsB, -, hnB, htB, hffB⟩ := Cond.ownField (t := .object "java/lang/Object") Y.found L.cls (by decide +kernel) (a (.fieldLink Bundle.tN 198 Bundle.tN "backtrace" "Ljava/lang/Object;") (by simp [Bundle.messageArmAtoms])) (a (.lays Bundle.tN Bundle.tN "backtrace" "Ljava/lang/Object;") (by simp [Bundle.messageArmAtoms])) e.platform hpl
  obtain ⟨cellS, hcS', heS, -, hkeep⟩ := X.same.2.2.2.2.2 T.aS cellS0 hcS0
  have hcellS : W.heap[T.aS]? = some cellS := hcS'
  have hout' : ∀ i, (⟨T.aS, i⟩ : Loc) ∉ locs := fun i hmem => by
    have := hlocs _ hmem cellS0 hcS0
    rw [hiss] at this; cases this
  have hknownS : cellS.vm ≠ .unknown := by
    rw [heS]; intro hu
    rw [show cellS0.vm = .unknown from hu] at hiss
    cases hiss
  have hvU : cellS.slots[T.fUnassigned.slot]? = some u0.v := by rw [hkeep _ (hout' _)]; exact hu0
  have hvSen : cellS.slots[T.fSentinel.slot]? = some sen.v := by rw [hkeep _ (hout' _)]; exact hsen
  obtain ⟨iM, hffM⟩ := Y.msg
  obtain ⟨tyC, dC, hdC, hdnC⟩ := Cond.laysAt hfound hk Y.cause (a (.lays cls Bundle.tN "cause" "Ljava/lang/Throwable;") (by simp [Bundle.messageArmAtoms]))
  obtain ⟨tyS, dS, hdS, hdnS⟩ := Cond.laysAt hfound hk Y.stack (a (.lays cls Bundle.tN "stackTrace" Bundle.steD) (by simp [Bundle.messageArmAtoms]))
  obtain ⟨tyP, dP, hdP, hdnP⟩ := Cond.laysAt hfound hk Y.supp (a (.lays cls Bundle.tN "suppressedExceptions" Bundle.listD) (by simp [Bundle.messageArmAtoms]))
  obtain ⟨tyM, dM, hdM, hdnM⟩ := Cond.laysAt hfound hk hffM (a (.lays cls Bundle.tN "detailMessage" "Ljava/lang/String;") (by simp [Bundle.messageArmAtoms]))
  obtain ⟨tyB, dB, hdB, hdnB⟩ := Cond.laysAt hfound hk hffB (a (.lays cls Bundle.tN "backtrace" "Ljava/lang/Object;") (by simp [Bundle.messageArmAtoms]))
  have bC := Cond.laysApart hdB hdC hdnB hdnC (by rw [hnB, Y.causeName]; decide)
  have bS := Cond.laysApart hdB hdS hdnB hdnS (by rw [hnB, Y.stackName]; decide)
  have bP := Cond.laysApart hdB hdP hdnB hdnP (by rw [hnB, Y.suppName]; decide)
  have hbk : ((preparedCellV T.toThrowableT (freshCell P1.m.cls kX) (W.heap.size + 2) u0 sen).withEntry W.cur).slots[fB.slot]? = some .null := by
    have := fresh_default (c := P1.m.cls) tyB
    rw [htB] at this
    simpa [preparedCellV, Cell.setSlot, Cell.withEntry, Array.getElem?_setIfInBounds, bC, bS, bP, bC.symm, bS.symm, bP.symm, defaultValue] using this
  have tkC := Takes.of_laid (v := .ref (W.heap.size + 2)) hk hord tyC (by rw [Y.causeType]; rfl)
  have tkS := Takes.of_laid (v := u0.v) hk hord tyS (by rw [Y.stackType]; exact fits_refV_array _ u0)
  have tkP := Takes.of_laid (v := sen.v) hk hord tyP (by rw [Y.suppType]; exact fits_refV_object _ sen)
  have tkM := Takes.of_laid (v := .ref (W.heap.size + 1)) hk hord tyM (by rw [Y.msgType]; rfl)
  have hskip : SkipFacts T e.platform s (fun u => u) u0 ((preparedCellV T.toThrowableT (freshCell P1.m.cls kX) (W.heap.size + 2) u0 sen).withEntry W.cur) := ⟨{ ci198 := ci198, i198 := i198, fBack := fB }, ⟨hk198, hg198, ha198, hsB⟩, hbk, fun _ _ => rfl⟩
  have h0 : At W g.method c below := by rw [hg]; exact X.here
  obtain ⟨hbeyond, hfreeW⟩ := X.vmMayThrow hsize (.throwNew cls (some text) none) (fun f hf => by cases hf) rfl hRlocals
  have hfr' : W.frames.length + Ps.length + 4 < (e.platform.stackLimits W.me).1 := by have := X.framesAbove hRframes; omega
  have hwd' : (stackUse (.java g :: W.frames.tail)).2 + 13 * Ps.length + 55 ≤ (e.platform.stackLimits W.me).2 := by have := X.stackAbove hsize (K := 13 * Ps.length + 55) (by omega); omega
  have hslots : W.slotsUsed + (stringBytes (stringToUtf16 text)).size + Zs.kS.instanceTypes.size + kX.instanceTypes.size ≤ e.platform.maxSlots := by
    have := X.slotsAbove hRslots
    rw [hn4, hn6]
    omega
  obtain ⟨vm', hW', st⟩ := Steps.vmThrowsMessageColdByV p (s₀ := s) (S := W) (g := g) h0 hexec T L Z LZ M LM X.warmed (t := W.cur) rfl Zs LZs P1 L1 Ps hL hlink1 hlink hsoe hoom hfound hk hinit hord hctor
    (Launch.admits_hotImplicitExceptions X.admits) hbeyond hfreeW htext hlimit hheap (X.cellsAbove hRcells) hslots (hfitv _) (hfitc _)
    (Nn := fun u => u) heapOnly_id (fun _ _ => rfl) (fun _ => rfl) (fun u x y => setCell_twice _ _ _ _) (fun _ => Nat.le_refl _) (cN := ((preparedCellV T.toThrowableT (freshCell P1.m.cls kX) (W.heap.size + 2) u0 sen).withEntry W.cur))
    hsel0 hcellS hknownS hvU tkS (fun _ hu => hu) (fun _ hu => hu) rfl rfl rfl (by simp [preparedCellV, Cell.setSlot, Cell.withEntry]) hskip (fun _ _ hA hW _ hroom _ hrest => L.nativeOff p htr hA hW hroom hrest) hselF hvSen tkC tkP tkM Y.objLocals rfl hfr' hwd'
  rw [plainBareV_eq T.toThrowableT (W.heap.size + 2) u0 sen (.ref (W.heap.size + 1)) W.cur rfl rfl] at st
  obtain ⟨-, -, w3, w4, -, -, -⟩ := withThrown_facts e.platform W Zs text P1.m.cls kX
  have X3 := ((X.pushed (bytesOf Zs.cB (stringToUtf16 text))).pushed (stringAt Zs.cS Zs.kS Zs.fv Zs.fc (stringToUtf16 text) W.heap.size)).pushed (freshCell P1.m.cls kX)
  rw [← withString_eq] at X3
  have X4 := X3.noted hW'
  have ha : (W.heap.size + 2) < ((withThrown W Zs text P1.m.cls kX).setVm vm').heap.size := by show _ < (withThrown W Zs text P1.m.cls kX).heap.size; rw [w3]; omega
  have hcell : ((withThrown W Zs text P1.m.cls kX).setVm vm').heap[(W.heap.size + 2)]? = some (freshCell P1.m.cls kX) := w4
  have X5 := ((((X4.stored hcell T.fCause.slot (.ref (W.heap.size + 2))).storedAgain ha T.fStack.slot u0.v).storedAgain ha T.fSupp.slot sen.v).storedAgain ha T.fStack.slot u0.v).storedAgain ha T.fMsg.slot (.ref (W.heap.size + 1))
  obtain ⟨g₁, hfrM⟩ := X5.frames_eq
  have hU : ((((withThrown W Zs text P1.m.cls kX).setVm vm').setCell (W.heap.size + 2) (plainBareV T.toThrowableT (freshCell P1.m.cls kX) (W.heap.size + 2) u0 sen (.ref (W.heap.size + 1)))).setTop g).pushFrame (.throwing (W.heap.size + 2)) = (((withThrown W Zs text P1.m.cls kX).setVm vm').setCell (W.heap.size + 2) (plainBareV T.toThrowableT (freshCell P1.m.cls kX) (W.heap.size + 2) u0 sen (.ref (W.heap.size + 1)))).setFrames (.throwing (W.heap.size + 2) :: .java g :: below) := by
    rw [State.pushFrame, State.frames_setTop _ hfrM, State.setTop_of_frames _ hfrM, State.setFrames_setFrames]
  have b1 : (bytesOf Zs.cB (stringToUtf16 text)).slots.size = (stringBytes (stringToUtf16 text)).size := by
    rw [(Cell.writeAll_facts _ _).2.2]; simp [bytes0]
  have b2 : (stringAt Zs.cS Zs.kS Zs.fv Zs.fc (stringToUtf16 text) W.heap.size).slots.size = 4 := by simp [string0, Cell.setSlot, hn4]
  have b3 : (freshCell P1.m.cls kX).slots.size = 6 := by simp [hn6]
  rw [b1, b2, b3] at X5
  have e9 : slots + (stringBytes (stringToUtf16 text)).size + 4 + 6 = slots + ((stringBytes (stringToUtf16 text)).size + 4 + 6) := by omega
  rw [e9] at X5
  simp only [List.append_assoc, List.cons_append, List.nil_append] at X5
  refine ⟨((withThrown W Zs text P1.m.cls kX).setVm vm').setCell (W.heap.size + 2) (plainBareV T.toThrowableT (freshCell P1.m.cls kX) (W.heap.size + 2) u0 sen (.ref (W.heap.size + 1))), W.heap.size + 2, _, fun target ht => st _ (by rw [X.tail, ← hU]; exact ht),
    X5.forget (fun y hy => ?_), heapAt_setCell_self _ ha, hfound, rfl⟩
  simp only [List.mem_cons, List.not_mem_nil, or_false] at hy
  have hge : s.heap.size ≤ W.heap.size := X.same.2.1
  rcases hy with rfl | rfl | rfl | rfl | rfl <;> exact Nat.le_trans hge (Nat.le_add_right _ 2)
set_option maxHeartbeats 1000000 in
/-- the machine throws NullPointerException, no traces kept: from its note over the frame g to 'throwing' over the same frame (follows the proof of Stand.vmThrowsNpe, Shelf42/KT2.lean; throwsNpeColdBareVAt, Shelf42/NT91.lean, called) -/
theorem vx_npeAt {p : Program} {l : Launch} {e : Env} {R : Room} {s : State} {m₀ : MethodId} {args : Array Value} {below : List Frame} {meth : Method} {c : Code} {W : State} {locs : List Loc} {cells slots : Nat}
    (X : Stand p l e R s m₀ args below meth c W locs cells slots) (hexec : p.tables.exec = Jvm.exec) (htr : e.platform.stackTraces = false) {n : Nat}
    (h : ∀ a ∈ Bundle.npeArmAtoms n, a.before args s = true)
    (hlocs : ∀ x ∈ locs, ∀ cell, s.heap[x.base]? = some cell → cell.vm.isStatics = false)
    {g : JFrame} (hg : g.method = m₀) (hsize : g.locals.size = c.maxLocals)
    (hRframes : 7 < R.frames) (hRlocals : 2 * g.monitorRoom + (g.stack.map fun v => v.category).sum + 10240 ≤ R.locals)
    (hRcells : cells + 1 ≤ R.cells) (hRslots : slots + n ≤ R.slots) (hlocks : meth.locks = false) :
    ∃ (S : State) (q : Addr) (ce : Cell), (∀ target, Steps p.tables e below ((S.setTop g).pushFrame (.throwing q)) target → Steps p.tables e below ((W.setTop g).pushFrame (.throwNew "java/lang/NullPointerException" none none)) target) ∧
      Stand p l e R s m₀ args below meth c S locs (cells + 1) (slots + n) ∧ S.heap[q]? = some ce ∧ s.vm.findClass "java/lang/NullPointerException" = some ce.cls ∧ ce.vm = .none := by
  have howns : e.platform.frameOwnsMonitors = true := by rw [X.admits.platform]
  have hfin : e.platform.finalization = false := by rw [X.admits.platform]
  have hpl : e.platform.magicAccessors = ({} : Platform).magicAccessors := by rw [X.admits.platform]
  have hpl2 : e.platform.arrayCloneIsPublic = true := by rw [X.admits.platform]
  have a' : ∀ x, x ∈ Bundle.npeArmAtoms n → x.holds args s none s [] = true := fun x hx => h x hx
  obtain ⟨T, Z, L, LZ, Y⟩ := ThrowableC.of_atoms (args := args) howns hfin hpl (fun x hx => h x (by simp [Bundle.npeArmAtoms, hx]))
  obtain ⟨N, LN, hcN, hnNF, hordN, hffS⟩ := NpeC.of_atoms (args := args) hpl hpl2 L Y (fun x hx => h x (by simp [Bundle.npeArmAtoms, hx]))
  obtain ⟨P1, L1, hP1m, hP1s⟩ := PassC.of_atoms (args := args) (s := s) hpl (X := Bundle.nN) (Y := Bundle.rN) (by decide) (by decide) LibCode.NullPointerException.Init0.at_0 LibCode.NullPointerException.Init0.at_1 LibCode.NullPointerException.Init0.at_4 (fun x hx => h x (by simp [Bundle.npeArmAtoms, hx]))
  obtain ⟨PR, LR, hPRm, hPRs⟩ := PassC.of_atoms (args := args) (s := s) hpl (X := Bundle.rN) (Y := Bundle.eN) (by decide) (by decide) LibCode.RuntimeException.Init0.at_0 LibCode.RuntimeException.Init0.at_1 LibCode.RuntimeException.Init0.at_4 (fun x hx => h x (by simp [Bundle.npeArmAtoms, hx]))
  obtain ⟨PE, LEx, hPEm, hPEs⟩ := PassC.of_atoms (args := args) (s := s) hpl (X := Bundle.eN) (Y := Bundle.tN) (by decide) (by decide) LibCode.Exception.Init0.at_0 LibCode.Exception.Init0.at_1 LibCode.Exception.Init0.at_4 (fun x hx => h x (by simp [Bundle.npeArmAtoms, hx]))
  have hfound : s.vm.findClass Bundle.nN = some P1.m.cls := findClass_of_methodNamed hP1m
  have ecls : N.cN = P1.m.cls := Option.some.inj (hcN.symm.trans hfound)
  have hk : s.vm.classes[P1.m.cls]? = some N.kN := by rw [← ecls]; exact LN.cls
  have hinit := Cond.initialized_spec hfound hk (a' (.initialized Bundle.nN) (by simp [Bundle.npeArmAtoms]))
  have hctor : N.kN.findMethod "<init>" "()V" = some P1.m.idx := findMethod_of_methodNamed hP1m hk
  obtain ⟨c1, k1, hc1, hk1, -, -, -, hn⟩ := Cond.instantiable_spec (a' (.instantiable Bundle.nN n) (by simp [Bundle.npeArmAtoms]))
  cases Option.some.inj (hc1.symm.trans hfound)
  cases Option.some.inj (hk1.symm.trans hk)
  have hfsz : (freshCell P1.m.cls N.kN).slots.size = n := by simp [hn]
  have hlink1 : P1.sup = PR.m := Option.some.inj (hP1s.symm.trans hPRm)
  have hlinkR : PR.sup = PE.m := Option.some.inj (hPRs.symm.trans hPEm)
  have hlinkE : PE.sup = Z.m T.toThrowableT := Option.some.inj (hPEs.symm.trans Y.init0)
  have hLs : ∀ P, P ∈ [PR, PE] → P.Links0 e.platform s := fun P hP => by
    simp only [List.mem_cons, List.not_mem_nil, or_false] at hP
    rcases hP with rfl | rfl
    · exact LR
    · exact LEx
  have hsel0 : selectMethod e.platform s.vm P1.m.cls T.fill0 = .method T.fill0 := by
    obtain ⟨c2, r2, m2, q1, q2, q3, q4, -⟩ := Cond.selects_spec (a' (.selects Bundle.nN Bundle.tFill0 Bundle.tFill0) (by simp [Bundle.npeArmAtoms]))
    cases Option.some.inj (q1.symm.trans hfound)
    cases Option.some.inj (q2.symm.trans (State.methodFound?_of_named Y.fill0 (by decide)))
    cases Option.some.inj (q3.symm.trans Y.fill0)
    rw [Launch.admits_selectMethod X.admits]; exact q4
  have hselF : selectMethod e.platform s.vm P1.m.cls T.fill = .method N.fill := by
    obtain ⟨c2, r2, m2, q1, q2, q3, q4, -⟩ := Cond.selects_spec (a' (.selects Bundle.nN Bundle.tFill Bundle.nFill) (by simp [Bundle.npeArmAtoms]))
    cases Option.some.inj (q1.symm.trans hfound)
    cases Option.some.inj (q2.symm.trans (State.methodFound?_of_named Y.fill (by decide)))
    cases Option.some.inj (q3.symm.trans hnNF)
    rw [Launch.admits_selectMethod X.admits]; exact q4
  obtain ⟨cellS0, hcS0, hiss⟩ := Y.statics
  obtain ⟨u0, hu0⟩ := Cond.staticRefV Y.unassigned L.unassignedStatic L.statics hcS0 hiss (a' (.isRef (.static Bundle.tN "UNASSIGNED_STACK" Bundle.steD)) (by simp [Bundle.npeArmAtoms]))
  obtain ⟨sen, hsen⟩ := Cond.staticRefV Y.sentinel L.sentinelStatic L.statics hcS0 hiss (a' (.isRef (.static Bundle.tN "SUPPRESSED_SENTINEL" Bundle.listD)) (by simp [Bundle.npeArmAtoms]))
  obtain ⟨ci198, i198, fB, hk198, hg198, ha198, hsB, -, hnB, htB, hffB⟩ := Cond.ownField (t := .object "java/lang/Object") Y.found L.cls (by decide +kernel) (a' (.fieldLink Bundle.tN 198 Bundle.tN "backtrace" Bundle.objD) (by simp [Bundle.npeArmAtoms])) (a' (.lays Bundle.tN Bundle.tN "backtrace" Bundle.objD) (by simp [Bundle.npeArmAtoms])) e.platform hpl
  obtain ⟨cellS, hcS', heS, -, hkeep⟩ := X.same.2.2.2.2.2 T.aS cellS0 hcS0
  have hcellS : W.heap[T.aS]? = some cellS := hcS'
  have hout' : ∀ i, (⟨T.aS, i⟩ : Loc) ∉ locs := fun i hmem => by
    have := hlocs _ hmem cellS0 hcS0
    rw [hiss] at this; cases this
  have hknownS : cellS.vm ≠ .unknown := by
    rw [heS]; intro hu
    rw [show cellS0.vm = .unknown from hu] at hiss
    cases hiss
  have hvU : cellS.slots[T.fUnassigned.slot]? = some u0.v := by rw [hkeep _ (hout' _)]; exact hu0
  have hvSen : cellS.slots[T.fSentinel.slot]? = some sen.v := by rw [hkeep _ (hout' _)]; exact hsen
  obtain ⟨tyC, dC, hdC, hdnC⟩ := Cond.laysAt hfound hk Y.cause (a' (.lays Bundle.nN Bundle.tN "cause" "Ljava/lang/Throwable;") (by simp [Bundle.npeArmAtoms]))
  obtain ⟨tyS, dS, hdS, hdnS⟩ := Cond.laysAt hfound hk Y.stack (a' (.lays Bundle.nN Bundle.tN "stackTrace" Bundle.steD) (by simp [Bundle.npeArmAtoms]))
  obtain ⟨tyP, dP, hdP, hdnP⟩ := Cond.laysAt hfound hk Y.supp (a' (.lays Bundle.nN Bundle.tN "suppressedExceptions" Bundle.listD) (by simp [Bundle.npeArmAtoms]))
  obtain ⟨tyX, dX, hdX, hdnX⟩ := Cond.laysAt hfound hk hffS (a' (.lays Bundle.nN Bundle.nN "extendedMessageState" "I") (by simp [Bundle.npeArmAtoms, Bundle.npeAtoms]))
  obtain ⟨hnX, htX⟩ := State.fieldFound?_type hffS (t := .int) (by decide +kernel)
  have xC := Cond.laysApart hdC hdX hdnC hdnX (by rw [hnX, Y.causeName]; decide)
  have xS := Cond.laysApart hdS hdX hdnS hdnX (by rw [hnX, Y.stackName]; decide)
  have xP := Cond.laysApart hdP hdX hdnP hdnX (by rw [hnX, Y.suppName]; decide)
  have hv0 : (freshCell P1.m.cls N.kN).slots[N.fState.slot]? = some (.int 0) := by
    have := fresh_default (c := P1.m.cls) tyX
    rw [htX] at this; exact this
  obtain ⟨tyB, dB, hdB, hdnB⟩ := Cond.laysAt hfound hk hffB (a' (.lays Bundle.nN Bundle.tN "backtrace" Bundle.objD) (by simp [Bundle.npeArmAtoms]))
  have bC := Cond.laysApart hdB hdC hdnB hdnC (by rw [hnB, Y.causeName]; decide)
  have bS := Cond.laysApart hdB hdS hdnB hdnS (by rw [hnB, Y.stackName]; decide)
  have bP := Cond.laysApart hdB hdP hdnB hdnP (by rw [hnB, Y.suppName]; decide)
  have bX := Cond.laysApart hdB hdX hdnB hdnX (by rw [hnB, hnX]; decide)
  have hbk : ((npeCell N.toNpeT (preparedCellV T.toThrowableT (freshCell P1.m.cls N.kN) W.heap.size u0 sen) W.cur).withEntry W.cur).slots[fB.slot]? = some .null := by
    have := fresh_default (c := P1.m.cls) tyB
    rw [htB] at this
    simpa [npeCell, preparedCellV, Cell.setSlot, Cell.withEntry, Array.getElem?_setIfInBounds, bC, bS, bP, bX, bC.symm, bS.symm, bP.symm, bX.symm, defaultValue] using this
  have tkC := Takes.of_laid (v := .ref W.heap.size) hk hordN tyC (by rw [Y.causeType]; rfl)
  have tkS := Takes.of_laid (v := u0.v) hk hordN tyS (by rw [Y.stackType]; exact fits_refV_array _ u0)
  have tkP := Takes.of_laid (v := sen.v) hk hordN tyP (by rw [Y.suppType]; exact fits_refV_object _ sen)
  have tkX := Takes.of_laid (v := .int 1) hk hordN tyX (by rw [htX]; rfl)
  have hskip : SkipFacts T e.platform s (fun u => u) u0 ((npeCell N.toNpeT (preparedCellV T.toThrowableT (freshCell P1.m.cls N.kN) W.heap.size u0 sen) W.cur).withEntry W.cur) := ⟨{ ci198 := ci198, i198 := i198, fBack := fB }, ⟨hk198, hg198, ha198, hsB⟩, hbk, fun _ _ => rfl⟩
  obtain ⟨vm', X3, st, -⟩ := X.throwsNpeColdBareVAt hexec hg hsize T L Z LZ N LN P1 L1 [PR, PE] hLs hlink1 ⟨hlinkR, hlinkE, trivial⟩ hfound hk hinit hordN hctor hsel0 hselF hcellS hknownS hvU hvSen
    hv0 xC xS xP tkC tkS tkP tkX Y.objLocals hskip (fun _ _ hA hW _ hroom _ hrest => L.nativeOff p htr hA hW hroom hrest) (by simpa using hRframes) hRlocals (by simp) hRcells (by rw [hn]; exact hRslots)
  have hlt : W.heap.size < ((W.pushCell (freshCell P1.m.cls N.kN)).setVm vm').heap.size := by
    show W.heap.size < (W.pushCell (freshCell P1.m.cls N.kN)).heap.size
    rw [State.heap_size_pushCell]; omega
  rw [hfsz] at X3
  obtain ⟨g₁, hfrM⟩ := X3.frames_eq
  have hU : ((((W.pushCell (freshCell P1.m.cls N.kN)).setVm vm').setCell W.heap.size (npeBareV T.toThrowableT N.toNpeT (freshCell P1.m.cls N.kN) W.heap.size u0 sen)).setTop g).pushFrame (.throwing W.heap.size) = (((W.pushCell (freshCell P1.m.cls N.kN)).setVm vm').setCell W.heap.size (npeBareV T.toThrowableT N.toNpeT (freshCell P1.m.cls N.kN) W.heap.size u0 sen)).setFrames (.throwing W.heap.size :: .java g :: below) := by
    rw [State.pushFrame, State.frames_setTop _ hfrM, State.setTop_of_frames _ hfrM, State.setFrames_setFrames]
  refine ⟨_, W.heap.size, _, fun target ht => st.trans (by rw [← hU]; exact ht), X3.forget (fun y hy => ?_), heapAt_setCell_self _ hlt, hfound, rfl⟩
  simp only [List.mem_cons, List.not_mem_nil, or_false] at hy
  have hge : s.heap.size ≤ W.heap.size := X.same.2.1
  rcases hy with rfl | rfl | rfl | rfl | rfl <;> exact hge
/-- the words of a machine's NullPointerException, but the four that speak of the heap -/
def vx_atN (n : Nat) : List Cond := (Bundle.npeArmAtoms n).filter vx_no
/-- the words of a machine's throw with a message, but the four that speak of the heap -/
def vx_atM (X : String) (names : List String) : List Cond := (Bundle.messageArmAtoms X names).filter vx_no
section
variable {p : Program} {l : Launch} {e : Env} {R : Room} {s : State} {m : MethodId} {args : Array Value} {below : List Frame} {meth : Method} {c : Code} {H : Heap} {locs : List Loc} {cells slots : Nat}
/-- a frame seen from a rebased start, seen from the first start again -/
theorem vx_back9 {T S : State} {R' : Room} {k n : Nat} (X : Stand p l e R s m args below meth c T locs cells slots) (Y : Stand p l e R' ((T.setVm s.vm).setFrames (.invoking m args :: below)) m args below meth c T [] 0 0) (Z : Stand p l e R' ((T.setVm s.vm).setFrames (.invoking m args :: below)) m args below meth c S [] k n) :
    Stand p l e R s m args below meth c S locs (cells + k) (slots + n) := by
  have hW0 : s.WarmedH ((T.setVm s.vm).setFrames (.invoking m args :: below)).vm := State.WarmedH.refl s
  refine { admits := X.admits, cas := X.cas, clock := X.clock, frames := X.frames, room := X.room, hears := X.hears, method := X.method, code := X.code, here := Z.here, tail := Z.tail, warmed := State.WarmedH.trans hW0 Z.warmed, limits := Z.limits.trans (Y.limits.symm.trans X.limits), bytes := Z.bytes.trans (Y.bytes.symm.trans X.bytes), same := ?_ }
  obtain ⟨e1, e2⟩ := Z.same
  rw [State.setFrames_setFrames] at e1
  have h2 : (T.setVm s.vm).sameButNew (S.setVm s.vm) [] k n := ⟨e1, e2⟩
  have h3 := X.same.trans h2
  rw [List.append_nil] at h3
  exact h3
/-- from the machine's note that E is thrown here with this text -/
def vx_Note (p : Program) (l : Launch) (e : Env) (R : Room) (s : State) (m : MethodId) (args : Array Value) (below : List Frame) (meth : Method) (c : Code) (H : Heap) (locs : List Loc) (cells slots : Nat) (Q : State → Prop) (g : JFrame) (E text : String) : Prop :=
  ∀ T : State, T.heap = H → Stand p l e R s m args below meth c T locs cells slots → ∃ t, Steps p.tables e below ((T.setTop g).pushFrame (.throwNew E (some text) none)) t ∧ Q t
theorem vx_vm {pc : Nat} {ls : Array Slot} {rest : List Value} {Q : State → Prop} (hexec : p.tables.exec = Jvm.exec) (hl : l.stackTraces = false) {cls text : String} {names : List String} {nb : Nat} {A : Nat → Prop}
    (hcls : Bundle.fit cls = true) (hnames : ∀ n ∈ names, Bundle.fit n = true) (hsoe : (cls == "java/lang/StackOverflowError") = false) (hoom : (cls == "java/lang/OutOfMemoryError") = false)
    (hat : ∀ w ∈ vx_atM cls names, w.before args s = true) (hgood : ∀ w ∈ vx_atM cls names, vx_ot w = true)
    (hU : vx_Zq Bundle.tN "UNASSIGNED_STACK" Bundle.steD A s s.heap) (hN : vx_Zq Bundle.tN "SUPPRESSED_SENTINEL" Bundle.listD A s s.heap) (hS : va_S A s.heap H locs) (hsize : ls.size = c.maxLocals)
    (htext : (text == notModelled) = false) (hnb : (stringBytes (stringToUtf16 text)).size ≤ nb) (hnb1 : nb ≤ 1000)
    (hRframes : names.length + 4 < R.frames) (hRlocals : (rest.map fun v => v.category).sum + 10240 ≤ R.locals) (hshort : 13 * names.length + 55 ≤ 10240) (hRcells : cells + 3 ≤ R.cells) (hRslots : slots + (nb + 10) ≤ R.slots) (hlocks : meth.locks = false)
    (k : ∀ (H1 : Heap) (q9 : Addr) (ce : Cell), H.size ≤ H1.size → (∀ q : Nat, q < H.size → H1[q]? = H[q]?) → va_S A s.heap H1 locs → H1[q9]? = some ce → ce.vm = .none → s.vm.findClass cls = some ce.cls → vx_W p l e R s m args below meth c H1 locs (cells + 3) (slots + (nb + 10)) Q (F0 m pc ls rest) q9) :
    vx_Note p l e R s m args below meth c H locs cells slots Q (F0 m pc ls rest) cls text := by
  intro T hT X
  have htr : e.platform.stackTraces = false := (show e.platform.stackTraces = l.stackTraces by rw [X.admits.platform]).trans hl
  have Y := vx_rebase X (R' := { frames := R.frames, locals := R.locals, cells := 3, slots := nb + 10 }) (Nat.le_refl _) (Nat.le_refl _) hRcells hRslots
  have hhp : ((T.setVm s.vm).setFrames (.invoking m args :: below)).heap = H := hT
  have hW0 : s.WarmedH ((T.setVm s.vm).setFrames (.invoking m args :: below)).vm := State.WarmedH.refl s
  have hat' : ∀ w ∈ vx_atM cls names, w.before args ((T.setVm s.vm).setFrames (.invoking m args :: below)) = true := fun w hw => vx_ot_at hW0 rfl (hgood w hw) (hat w hw)
  have hU' : vx_Zq Bundle.tN "UNASSIGNED_STACK" Bundle.steD A ((T.setVm s.vm).setFrames (.invoking m args :: below)) ((T.setVm s.vm).setFrames (.invoking m args :: below)).heap := by rw [hhp]; exact vx_Zq.moved hW0.alike (hU.kept hS.2.1)
  have hN' : vx_Zq Bundle.tN "SUPPRESSED_SENTINEL" Bundle.listD A ((T.setVm s.vm).setFrames (.invoking m args :: below)) ((T.setVm s.vm).setFrames (.invoking m args :: below)).heap := by rw [hhp]; exact vx_Zq.moved hW0.alike (hN.kept hS.2.1)
  obtain ⟨S, q, ce, st, Z, hce, hcl', hv⟩ := vx_vmAt Y hexec htr (cls := cls) (names := names) (text := text) hcls hnames hsoe hoom (vx_own hat' (vx_isRefq hU'.1) (vx_isRefq hN'.1) hU'.2.word hN'.2.word) (fun x hx => nomatch hx) htext
    (by rw [Launch.admits_arrayLengthLimit X.admits]; omega) (by rw [Launch.admits_maxHeapBytes X.admits]; simp only [componentBytes]; omega)
    (g := F0 m pc ls rest) rfl hsize hRframes (by show 2 * 0 + (rest.map fun v => v.category).sum + 10240 ≤ R.locals; omega) hshort (by show 0 + 3 ≤ 3; omega) (by show 0 + (_ + 4 + 6) ≤ nb + 10; omega) hlocks
  obtain ⟨f1, f2⟩ := vx_frame Z.same
  have f1' : H.size ≤ S.heap.size := by rw [← hT]; exact f1
  have f2' : ∀ q : Nat, q < H.size → S.heap[q]? = H[q]? := fun q hq => by
    rw [← hT]
    exact f2 q (by rw [← hT] at hq; exact hq) (fun z hz => nomatch hz)
  have X5 := vx_back9 X Y Z
  have X6 : Stand p l e R s m args below meth c S locs (cells + 3) (slots + (nb + 10)) := { X5 with same := X5.same.mono (by omega) (by omega) }
  obtain ⟨t, a1, b1⟩ := k S.heap q ce f1' f2' ⟨Nat.le_trans hS.1 f1', fun q h1 h2 => (f2' q (Nat.lt_of_lt_of_le h1 hS.1)).trans (hS.2.1 q h1 h2), hS.2.2⟩ hce hv hcl' S rfl X6
  exact ⟨t, st t a1, b1⟩
/-- from the machine's note that NullPointerException is thrown here -/
def vx_NoteN (p : Program) (l : Launch) (e : Env) (R : Room) (s : State) (m : MethodId) (args : Array Value) (below : List Frame) (meth : Method) (c : Code) (H : Heap) (locs : List Loc) (cells slots : Nat) (Q : State → Prop) (g : JFrame) : Prop :=
  ∀ T : State, T.heap = H → Stand p l e R s m args below meth c T locs cells slots → ∃ t, Steps p.tables e below ((T.setTop g).pushFrame (.throwNew "java/lang/NullPointerException" none none)) t ∧ Q t
theorem vx_npe {pc : Nat} {ls : Array Slot} {rest : List Value} {Q : State → Prop} (hexec : p.tables.exec = Jvm.exec) (hl : l.stackTraces = false) {nb : Nat} {A : Nat → Prop}
    (hat : ∀ w ∈ vx_atN nb, w.before args s = true) (hgood : ∀ w ∈ vx_atN nb, vx_ot w = true)
    (hU : vx_Zq Bundle.tN "UNASSIGNED_STACK" Bundle.steD A s s.heap) (hN : vx_Zq Bundle.tN "SUPPRESSED_SENTINEL" Bundle.listD A s s.heap) (hS : va_S A s.heap H locs) (hsize : ls.size = c.maxLocals)
    (hRframes : 7 < R.frames) (hRlocals : (rest.map fun v => v.category).sum + 10240 ≤ R.locals) (hRcells : cells + 1 ≤ R.cells) (hRslots : slots + nb ≤ R.slots) (hlocks : meth.locks = false)
    (k : ∀ (H1 : Heap) (q9 : Addr) (ce : Cell), H.size ≤ H1.size → (∀ q : Nat, q < H.size → H1[q]? = H[q]?) → va_S A s.heap H1 locs → H1[q9]? = some ce → ce.vm = .none → s.vm.findClass "java/lang/NullPointerException" = some ce.cls → vx_W p l e R s m args below meth c H1 locs (cells + 1) (slots + nb) Q (F0 m pc ls rest) q9) :
    vx_NoteN p l e R s m args below meth c H locs cells slots Q (F0 m pc ls rest) := by
  intro T hT X
  have htr : e.platform.stackTraces = false := (show e.platform.stackTraces = l.stackTraces by rw [X.admits.platform]).trans hl
  have Y := vx_rebase X (R' := { frames := R.frames, locals := R.locals, cells := 1, slots := nb }) (Nat.le_refl _) (Nat.le_refl _) hRcells hRslots
  have hhp : ((T.setVm s.vm).setFrames (.invoking m args :: below)).heap = H := hT
  have hW0 : s.WarmedH ((T.setVm s.vm).setFrames (.invoking m args :: below)).vm := State.WarmedH.refl s
  have hat' : ∀ w ∈ vx_atN nb, w.before args ((T.setVm s.vm).setFrames (.invoking m args :: below)) = true := fun w hw => vx_ot_at hW0 rfl (hgood w hw) (hat w hw)
  have hU' : vx_Zq Bundle.tN "UNASSIGNED_STACK" Bundle.steD A ((T.setVm s.vm).setFrames (.invoking m args :: below)) ((T.setVm s.vm).setFrames (.invoking m args :: below)).heap := by rw [hhp]; exact vx_Zq.moved hW0.alike (hU.kept hS.2.1)
  have hN' : vx_Zq Bundle.tN "SUPPRESSED_SENTINEL" Bundle.listD A ((T.setVm s.vm).setFrames (.invoking m args :: below)) ((T.setVm s.vm).setFrames (.invoking m args :: below)).heap := by rw [hhp]; exact vx_Zq.moved hW0.alike (hN.kept hS.2.1)
  obtain ⟨S, q, ce, st, Z, hce, hcl', hv⟩ := vx_npeAt Y hexec htr (n := nb) (vx_own hat' (vx_isRefq hU'.1) (vx_isRefq hN'.1) hU'.2.word hN'.2.word) (fun x hx => nomatch hx)
    (g := F0 m pc ls rest) rfl hsize hRframes (by show 2 * 0 + (rest.map fun v => v.category).sum + 10240 ≤ R.locals; omega) (by show 0 + 1 ≤ 1; omega) (by show 0 + nb ≤ nb; omega) hlocks
  obtain ⟨f1, f2⟩ := vx_frame Z.same
  have f1' : H.size ≤ S.heap.size := by rw [← hT]; exact f1
  have f2' : ∀ q : Nat, q < H.size → S.heap[q]? = H[q]? := fun q hq => by
    rw [← hT]
    exact f2 q (by rw [← hT] at hq; exact hq) (fun z hz => nomatch hz)
  have X5 := vx_back9 X Y Z
  have X6 : Stand p l e R s m args below meth c S locs (cells + 1) (slots + nb) := { X5 with same := X5.same.mono (by omega) (by omega) }
  obtain ⟨t, a1, b1⟩ := k S.heap q ce f1' f2' ⟨Nat.le_trans hS.1 f1', fun q h1 h2 => (f2' q (Nat.lt_of_lt_of_le h1 hS.1)).trans (hS.2.1 q h1 h2), hS.2.2⟩ hce hv hcl' S rfl X6
  exact ⟨t, st t a1, b1⟩
variable {Q : State → Prop} {cc : ByteArray} {pc : Nat} {ls : Array Slot} {rest : List Value}
theorem vx_idivZ (hexec : p.tables.exec = Jvm.exec) (hb : c.code = cc) {a b : Int32} (h0 : b = 0) (d : decode cc pc = .ok (.idiv, 1)) (k : vx_Note p l e R s m args below meth c H locs cells slots Q (F0 m pc ls rest) "java/lang/ArithmeticException" "/ by zero") :
    W p l e R s m args below meth c H locs cells slots Q (F0 m pc ls (.int b :: .int a :: rest)) := by
  intro T hT X
  obtain ⟨t, st, q⟩ := k T hT X
  exact ⟨t, X.idivZero hexec (g := F0 m pc ls (.int b :: .int a :: rest)) rfl (a := a) (rest := rest) (by rw [h0]) (by rw [hb]; exact d) t st, q⟩
theorem vx_iremZ (hexec : p.tables.exec = Jvm.exec) (hb : c.code = cc) {a b : Int32} (h0 : b = 0) (d : decode cc pc = .ok (.irem, 1)) (k : vx_Note p l e R s m args below meth c H locs cells slots Q (F0 m pc ls rest) "java/lang/ArithmeticException" "/ by zero") :
    W p l e R s m args below meth c H locs cells slots Q (F0 m pc ls (.int b :: .int a :: rest)) := by
  intro T hT X
  obtain ⟨t, st, q⟩ := k T hT X
  exact ⟨t, X.iremZero hexec (g := F0 m pc ls (.int b :: .int a :: rest)) rfl (a := a) (rest := rest) (by rw [h0]) (by rw [hb]; exact d) t st, q⟩
theorem vx_ldivZ (hexec : p.tables.exec = Jvm.exec) (hb : c.code = cc) {a b : Int64} (h0 : b = 0) (d : decode cc pc = .ok (.ldiv, 1)) (k : vx_Note p l e R s m args below meth c H locs cells slots Q (F0 m pc ls rest) "java/lang/ArithmeticException" "/ by zero") :
    W p l e R s m args below meth c H locs cells slots Q (F0 m pc ls (.long b :: .long a :: rest)) := by
  intro T hT X
  obtain ⟨t, st, q⟩ := k T hT X
  exact ⟨t, X.ldivZero hexec (g := F0 m pc ls (.long b :: .long a :: rest)) rfl (a := a) (rest := rest) (by rw [h0]) (by rw [hb]; exact d) t st, q⟩
theorem vx_lremZ (hexec : p.tables.exec = Jvm.exec) (hb : c.code = cc) {a b : Int64} (h0 : b = 0) (d : decode cc pc = .ok (.lrem, 1)) (k : vx_Note p l e R s m args below meth c H locs cells slots Q (F0 m pc ls rest) "java/lang/ArithmeticException" "/ by zero") :
    W p l e R s m args below meth c H locs cells slots Q (F0 m pc ls (.long b :: .long a :: rest)) := by
  intro T hT X
  obtain ⟨t, st, q⟩ := k T hT X
  exact ⟨t, X.lremZero hexec (g := F0 m pc ls (.long b :: .long a :: rest)) rfl (a := a) (rest := rest) (by rw [h0]) (by rw [hb]; exact d) t st, q⟩
theorem vx_ialdZ {D : va_G} {cl : List vw_C} {ws : va_W} {tys : List (ClassId × FieldType)} {a : Nat} (hexec : p.tables.exec = Jvm.exec) (hb : c.code = cc) (hK : va_K D cl tys s) (hP : va_P D cl ws H) (q0 t0 : Nat) {cA : ClassId} {n : Nat} {f : Nat → Int32} (ha : ws[q0]? = some (a, .inl (cA, n, .inl f))) (ht : tys[t0]? = some (cA, .int)) {i : Int32} (hout : ¬ vp_in i n) (hdg : decode cc pc = .ok (.iaload, 1))
    (k : ∀ tx : String, tx = (toString "Index " ++ toString i ++ toString " out of bounds for length " ++ toString n : String) → vx_Note p l e R s m args below meth c H locs cells slots Q (F0 m pc ls rest) "java/lang/ArrayIndexOutOfBoundsException" tx) : W p l e R s m args below meth c H locs cells slots Q (F0 m pc ls (.int i :: .ref a :: rest)) := by
  intro T hT X
  obtain ⟨t, st, q⟩ := k _ rfl T hT X
  refine ⟨t, ?_, q⟩
  have h1 := X.ialoadOut hexec (by rw [hT]; exact hP q0 _ ha) ((hK.2 t0 _ ht).1 n (fun j => .int (f j))) (j := i) (by show (i < 0 ∨ (arrV _ _ _).slots.size ≤ _); rw [arrV_size]; exact Classical.byContradiction hout) (g := F0 m pc ls (.int i :: .ref a :: rest)) rfl (rest := rest) rfl (by rw [hb]; exact hdg) t
  simp only [arrV_size] at h1
  exact h1 st
theorem vx_iastZ {D : va_G} {cl : List vw_C} {ws : va_W} {tys : List (ClassId × FieldType)} {a : Nat} (hexec : p.tables.exec = Jvm.exec) (hb : c.code = cc) (hK : va_K D cl tys s) (hP : va_P D cl ws H) (q0 t0 : Nat) {cA : ClassId} {n : Nat} {f : Nat → Int32} (ha : ws[q0]? = some (a, .inl (cA, n, .inl f))) (ht : tys[t0]? = some (cA, .int)) {i : Int32} {x : Int32} (hout : ¬ vp_in i n) (hdg : decode cc pc = .ok (.iastore, 1))
    (k : ∀ tx : String, tx = (toString "Index " ++ toString i ++ toString " out of bounds for length " ++ toString n : String) → vx_Note p l e R s m args below meth c H locs cells slots Q (F0 m pc ls rest) "java/lang/ArrayIndexOutOfBoundsException" tx) : W p l e R s m args below meth c H locs cells slots Q (F0 m pc ls (.int x :: .int i :: .ref a :: rest)) := by
  intro T hT X
  obtain ⟨t, st, q⟩ := k _ rfl T hT X
  refine ⟨t, ?_, q⟩
  have h1 := X.iastoreOut hexec (by rw [hT]; exact hP q0 _ ha) ((hK.2 t0 _ ht).1 n (fun j => .int (f j))) (j := i) (by show (i < 0 ∨ (arrV _ _ _).slots.size ≤ _); rw [arrV_size]; exact Classical.byContradiction hout) (g := F0 m pc ls (.int x :: .int i :: .ref a :: rest)) rfl (rest := rest) rfl (by rw [hb]; exact hdg) t
  simp only [arrV_size] at h1
  exact h1 st
theorem vx_baldZ {D : va_G} {cl : List vw_C} {ws : va_W} {tys : List (ClassId × FieldType)} {a : Nat} (hexec : p.tables.exec = Jvm.exec) (hb : c.code = cc) (hK : va_K D cl tys s) (hP : va_P D cl ws H) (q0 t0 : Nat) {cA : ClassId} {n : Nat} {f : Nat → Int32} (ha : ws[q0]? = some (a, .inl (cA, n, .inl f))) (ht : tys[t0]? = some (cA, .byte)) {i : Int32} (hout : ¬ vp_in i n) (hdg : decode cc pc = .ok (.baload, 1))
    (k : ∀ tx : String, tx = (toString "Index " ++ toString i ++ toString " out of bounds for length " ++ toString n : String) → vx_Note p l e R s m args below meth c H locs cells slots Q (F0 m pc ls rest) "java/lang/ArrayIndexOutOfBoundsException" tx) : W p l e R s m args below meth c H locs cells slots Q (F0 m pc ls (.int i :: .ref a :: rest)) := by
  intro T hT X
  obtain ⟨t, st, q⟩ := k _ rfl T hT X
  refine ⟨t, ?_, q⟩
  have h1 := X.baloadOut hexec (by rw [hT]; exact hP q0 _ ha) ((hK.2 t0 _ ht).1 n (fun j => .int (f j))) (j := i) (by show (i < 0 ∨ (arrV _ _ _).slots.size ≤ _); rw [arrV_size]; exact Classical.byContradiction hout) (g := F0 m pc ls (.int i :: .ref a :: rest)) rfl (rest := rest) rfl (by rw [hb]; exact hdg) t
  simp only [arrV_size] at h1
  exact h1 st
theorem vx_bastZ {D : va_G} {cl : List vw_C} {ws : va_W} {tys : List (ClassId × FieldType)} {a : Nat} (hexec : p.tables.exec = Jvm.exec) (hb : c.code = cc) (hK : va_K D cl tys s) (hP : va_P D cl ws H) (q0 t0 : Nat) {cA : ClassId} {n : Nat} {f : Nat → Int32} (ha : ws[q0]? = some (a, .inl (cA, n, .inl f))) (ht : tys[t0]? = some (cA, .byte)) {i : Int32} {x : Int32} (hout : ¬ vp_in i n) (hdg : decode cc pc = .ok (.bastore, 1))
    (k : ∀ tx : String, tx = (toString "Index " ++ toString i ++ toString " out of bounds for length " ++ toString n : String) → vx_Note p l e R s m args below meth c H locs cells slots Q (F0 m pc ls rest) "java/lang/ArrayIndexOutOfBoundsException" tx) : W p l e R s m args below meth c H locs cells slots Q (F0 m pc ls (.int x :: .int i :: .ref a :: rest)) := by
  intro T hT X
  obtain ⟨t, st, q⟩ := k _ rfl T hT X
  refine ⟨t, ?_, q⟩
  have h1 := X.bastoreOut hexec (by rw [hT]; exact hP q0 _ ha) ((hK.2 t0 _ ht).1 n (fun j => .int (f j))) (j := i) (by show (i < 0 ∨ (arrV _ _ _).slots.size ≤ _); rw [arrV_size]; exact Classical.byContradiction hout) (g := F0 m pc ls (.int x :: .int i :: .ref a :: rest)) rfl (rest := rest) rfl (by rw [hb]; exact hdg) t
  simp only [arrV_size] at h1
  exact h1 st
theorem vx_zaldZ {D : va_G} {cl : List vw_C} {ws : va_W} {tys : List (ClassId × FieldType)} {a : Nat} (hexec : p.tables.exec = Jvm.exec) (hb : c.code = cc) (hK : va_K D cl tys s) (hP : va_P D cl ws H) (q0 t0 : Nat) {cA : ClassId} {n : Nat} {f : Nat → Int32} (ha : ws[q0]? = some (a, .inl (cA, n, .inl f))) (ht : tys[t0]? = some (cA, .boolean)) {i : Int32} (hout : ¬ vp_in i n) (hdg : decode cc pc = .ok (.baload, 1))
    (k : ∀ tx : String, tx = (toString "Index " ++ toString i ++ toString " out of bounds for length " ++ toString n : String) → vx_Note p l e R s m args below meth c H locs cells slots Q (F0 m pc ls rest) "java/lang/ArrayIndexOutOfBoundsException" tx) : W p l e R s m args below meth c H locs cells slots Q (F0 m pc ls (.int i :: .ref a :: rest)) := by
  intro T hT X
  obtain ⟨t, st, q⟩ := k _ rfl T hT X
  refine ⟨t, ?_, q⟩
  have h1 := X.baloadOut hexec (by rw [hT]; exact hP q0 _ ha) ((hK.2 t0 _ ht).1 n (fun j => .int (f j))) (j := i) (by show (i < 0 ∨ (arrV _ _ _).slots.size ≤ _); rw [arrV_size]; exact Classical.byContradiction hout) (g := F0 m pc ls (.int i :: .ref a :: rest)) rfl (rest := rest) rfl (by rw [hb]; exact hdg) t
  simp only [arrV_size] at h1
  exact h1 st
theorem vx_zastZ {D : va_G} {cl : List vw_C} {ws : va_W} {tys : List (ClassId × FieldType)} {a : Nat} (hexec : p.tables.exec = Jvm.exec) (hb : c.code = cc) (hK : va_K D cl tys s) (hP : va_P D cl ws H) (q0 t0 : Nat) {cA : ClassId} {n : Nat} {f : Nat → Int32} (ha : ws[q0]? = some (a, .inl (cA, n, .inl f))) (ht : tys[t0]? = some (cA, .boolean)) {i : Int32} {x : Int32} (hout : ¬ vp_in i n) (hdg : decode cc pc = .ok (.bastore, 1))
    (k : ∀ tx : String, tx = (toString "Index " ++ toString i ++ toString " out of bounds for length " ++ toString n : String) → vx_Note p l e R s m args below meth c H locs cells slots Q (F0 m pc ls rest) "java/lang/ArrayIndexOutOfBoundsException" tx) : W p l e R s m args below meth c H locs cells slots Q (F0 m pc ls (.int x :: .int i :: .ref a :: rest)) := by
  intro T hT X
  obtain ⟨t, st, q⟩ := k _ rfl T hT X
  refine ⟨t, ?_, q⟩
  have h1 := X.bastoreOut hexec (by rw [hT]; exact hP q0 _ ha) ((hK.2 t0 _ ht).1 n (fun j => .int (f j))) (j := i) (by show (i < 0 ∨ (arrV _ _ _).slots.size ≤ _); rw [arrV_size]; exact Classical.byContradiction hout) (g := F0 m pc ls (.int x :: .int i :: .ref a :: rest)) rfl (rest := rest) rfl (by rw [hb]; exact hdg) t
  simp only [arrV_size] at h1
  exact h1 st
theorem vx_caldZ {D : va_G} {cl : List vw_C} {ws : va_W} {tys : List (ClassId × FieldType)} {a : Nat} (hexec : p.tables.exec = Jvm.exec) (hb : c.code = cc) (hK : va_K D cl tys s) (hP : va_P D cl ws H) (q0 t0 : Nat) {cA : ClassId} {n : Nat} {f : Nat → Int32} (ha : ws[q0]? = some (a, .inl (cA, n, .inl f))) (ht : tys[t0]? = some (cA, .char)) {i : Int32} (hout : ¬ vp_in i n) (hdg : decode cc pc = .ok (.caload, 1))
    (k : ∀ tx : String, tx = (toString "Index " ++ toString i ++ toString " out of bounds for length " ++ toString n : String) → vx_Note p l e R s m args below meth c H locs cells slots Q (F0 m pc ls rest) "java/lang/ArrayIndexOutOfBoundsException" tx) : W p l e R s m args below meth c H locs cells slots Q (F0 m pc ls (.int i :: .ref a :: rest)) := by
  intro T hT X
  obtain ⟨t, st, q⟩ := k _ rfl T hT X
  refine ⟨t, ?_, q⟩
  have h1 := X.caloadOut hexec (by rw [hT]; exact hP q0 _ ha) ((hK.2 t0 _ ht).1 n (fun j => .int (f j))) (j := i) (by show (i < 0 ∨ (arrV _ _ _).slots.size ≤ _); rw [arrV_size]; exact Classical.byContradiction hout) (g := F0 m pc ls (.int i :: .ref a :: rest)) rfl (rest := rest) rfl (by rw [hb]; exact hdg) t
  simp only [arrV_size] at h1
  exact h1 st
theorem vx_castZ {D : va_G} {cl : List vw_C} {ws : va_W} {tys : List (ClassId × FieldType)} {a : Nat} (hexec : p.tables.exec = Jvm.exec) (hb : c.code = cc) (hK : va_K D cl tys s) (hP : va_P D cl ws H) (q0 t0 : Nat) {cA : ClassId} {n : Nat} {f : Nat → Int32} (ha : ws[q0]? = some (a, .inl (cA, n, .inl f))) (ht : tys[t0]? = some (cA, .char)) {i : Int32} {x : Int32} (hout : ¬ vp_in i n) (hdg : decode cc pc = .ok (.castore, 1))
    (k : ∀ tx : String, tx = (toString "Index " ++ toString i ++ toString " out of bounds for length " ++ toString n : String) → vx_Note p l e R s m args below meth c H locs cells slots Q (F0 m pc ls rest) "java/lang/ArrayIndexOutOfBoundsException" tx) : W p l e R s m args below meth c H locs cells slots Q (F0 m pc ls (.int x :: .int i :: .ref a :: rest)) := by
  intro T hT X
  obtain ⟨t, st, q⟩ := k _ rfl T hT X
  refine ⟨t, ?_, q⟩
  have h1 := X.castoreOut hexec (by rw [hT]; exact hP q0 _ ha) ((hK.2 t0 _ ht).1 n (fun j => .int (f j))) (j := i) (by show (i < 0 ∨ (arrV _ _ _).slots.size ≤ _); rw [arrV_size]; exact Classical.byContradiction hout) (g := F0 m pc ls (.int x :: .int i :: .ref a :: rest)) rfl (rest := rest) rfl (by rw [hb]; exact hdg) t
  simp only [arrV_size] at h1
  exact h1 st
theorem vx_saldZ {D : va_G} {cl : List vw_C} {ws : va_W} {tys : List (ClassId × FieldType)} {a : Nat} (hexec : p.tables.exec = Jvm.exec) (hb : c.code = cc) (hK : va_K D cl tys s) (hP : va_P D cl ws H) (q0 t0 : Nat) {cA : ClassId} {n : Nat} {f : Nat → Int32} (ha : ws[q0]? = some (a, .inl (cA, n, .inl f))) (ht : tys[t0]? = some (cA, .short)) {i : Int32} (hout : ¬ vp_in i n) (hdg : decode cc pc = .ok (.saload, 1))
    (k : ∀ tx : String, tx = (toString "Index " ++ toString i ++ toString " out of bounds for length " ++ toString n : String) → vx_Note p l e R s m args below meth c H locs cells slots Q (F0 m pc ls rest) "java/lang/ArrayIndexOutOfBoundsException" tx) : W p l e R s m args below meth c H locs cells slots Q (F0 m pc ls (.int i :: .ref a :: rest)) := by
  intro T hT X
  obtain ⟨t, st, q⟩ := k _ rfl T hT X
  refine ⟨t, ?_, q⟩
  have h1 := X.saloadOut hexec (by rw [hT]; exact hP q0 _ ha) ((hK.2 t0 _ ht).1 n (fun j => .int (f j))) (j := i) (by show (i < 0 ∨ (arrV _ _ _).slots.size ≤ _); rw [arrV_size]; exact Classical.byContradiction hout) (g := F0 m pc ls (.int i :: .ref a :: rest)) rfl (rest := rest) rfl (by rw [hb]; exact hdg) t
  simp only [arrV_size] at h1
  exact h1 st
theorem vx_sastZ {D : va_G} {cl : List vw_C} {ws : va_W} {tys : List (ClassId × FieldType)} {a : Nat} (hexec : p.tables.exec = Jvm.exec) (hb : c.code = cc) (hK : va_K D cl tys s) (hP : va_P D cl ws H) (q0 t0 : Nat) {cA : ClassId} {n : Nat} {f : Nat → Int32} (ha : ws[q0]? = some (a, .inl (cA, n, .inl f))) (ht : tys[t0]? = some (cA, .short)) {i : Int32} {x : Int32} (hout : ¬ vp_in i n) (hdg : decode cc pc = .ok (.sastore, 1))
    (k : ∀ tx : String, tx = (toString "Index " ++ toString i ++ toString " out of bounds for length " ++ toString n : String) → vx_Note p l e R s m args below meth c H locs cells slots Q (F0 m pc ls rest) "java/lang/ArrayIndexOutOfBoundsException" tx) : W p l e R s m args below meth c H locs cells slots Q (F0 m pc ls (.int x :: .int i :: .ref a :: rest)) := by
  intro T hT X
  obtain ⟨t, st, q⟩ := k _ rfl T hT X
  refine ⟨t, ?_, q⟩
  have h1 := X.sastoreOut hexec (by rw [hT]; exact hP q0 _ ha) ((hK.2 t0 _ ht).1 n (fun j => .int (f j))) (j := i) (by show (i < 0 ∨ (arrV _ _ _).slots.size ≤ _); rw [arrV_size]; exact Classical.byContradiction hout) (g := F0 m pc ls (.int x :: .int i :: .ref a :: rest)) rfl (rest := rest) rfl (by rw [hb]; exact hdg) t
  simp only [arrV_size] at h1
  exact h1 st
theorem vx_laldZ {D : va_G} {cl : List vw_C} {ws : va_W} {tys : List (ClassId × FieldType)} {a : Nat} (hexec : p.tables.exec = Jvm.exec) (hb : c.code = cc) (hK : va_K D cl tys s) (hP : va_P D cl ws H) (q0 t0 : Nat) {cA : ClassId} {n : Nat} {f : Nat → Int64} (ha : ws[q0]? = some (a, .inl (cA, n, .inr (.inl f)))) (ht : tys[t0]? = some (cA, .long)) {i : Int32} (hout : ¬ vp_in i n) (hdg : decode cc pc = .ok (.laload, 1))
    (k : ∀ tx : String, tx = (toString "Index " ++ toString i ++ toString " out of bounds for length " ++ toString n : String) → vx_Note p l e R s m args below meth c H locs cells slots Q (F0 m pc ls rest) "java/lang/ArrayIndexOutOfBoundsException" tx) : W p l e R s m args below meth c H locs cells slots Q (F0 m pc ls (.int i :: .ref a :: rest)) := by
  intro T hT X
  obtain ⟨t, st, q⟩ := k _ rfl T hT X
  refine ⟨t, ?_, q⟩
  have h1 := X.laloadOut hexec (by rw [hT]; exact hP q0 _ ha) ((hK.2 t0 _ ht).1 n (fun j => .long (f j))) (j := i) (by show (i < 0 ∨ (arrV _ _ _).slots.size ≤ _); rw [arrV_size]; exact Classical.byContradiction hout) (g := F0 m pc ls (.int i :: .ref a :: rest)) rfl (rest := rest) rfl (by rw [hb]; exact hdg) t
  simp only [arrV_size] at h1
  exact h1 st
theorem vx_lastZ {D : va_G} {cl : List vw_C} {ws : va_W} {tys : List (ClassId × FieldType)} {a : Nat} (hexec : p.tables.exec = Jvm.exec) (hb : c.code = cc) (hK : va_K D cl tys s) (hP : va_P D cl ws H) (q0 t0 : Nat) {cA : ClassId} {n : Nat} {f : Nat → Int64} (ha : ws[q0]? = some (a, .inl (cA, n, .inr (.inl f)))) (ht : tys[t0]? = some (cA, .long)) {i : Int32} {x : Int64} (hout : ¬ vp_in i n) (hdg : decode cc pc = .ok (.lastore, 1))
    (k : ∀ tx : String, tx = (toString "Index " ++ toString i ++ toString " out of bounds for length " ++ toString n : String) → vx_Note p l e R s m args below meth c H locs cells slots Q (F0 m pc ls rest) "java/lang/ArrayIndexOutOfBoundsException" tx) : W p l e R s m args below meth c H locs cells slots Q (F0 m pc ls (.long x :: .int i :: .ref a :: rest)) := by
  intro T hT X
  obtain ⟨t, st, q⟩ := k _ rfl T hT X
  refine ⟨t, ?_, q⟩
  have h1 := X.lastoreOut hexec (by rw [hT]; exact hP q0 _ ha) ((hK.2 t0 _ ht).1 n (fun j => .long (f j))) (j := i) (by show (i < 0 ∨ (arrV _ _ _).slots.size ≤ _); rw [arrV_size]; exact Classical.byContradiction hout) (g := F0 m pc ls (.long x :: .int i :: .ref a :: rest)) rfl (rest := rest) rfl (by rw [hb]; exact hdg) t
  simp only [arrV_size] at h1
  exact h1 st
theorem vx_faldZ {D : va_G} {cl : List vw_C} {ws : va_W} {tys : List (ClassId × FieldType)} {a : Nat} (hexec : p.tables.exec = Jvm.exec) (hb : c.code = cc) (hK : va_K D cl tys s) (hP : va_P D cl ws H) (q0 t0 : Nat) {cA : ClassId} {n : Nat} {f : Nat → UInt32} (ha : ws[q0]? = some (a, .inl (cA, n, .inr (.inr (.inl f))))) (ht : tys[t0]? = some (cA, .float)) {i : Int32} (hout : ¬ vp_in i n) (hdg : decode cc pc = .ok (.faload, 1))
    (k : ∀ tx : String, tx = (toString "Index " ++ toString i ++ toString " out of bounds for length " ++ toString n : String) → vx_Note p l e R s m args below meth c H locs cells slots Q (F0 m pc ls rest) "java/lang/ArrayIndexOutOfBoundsException" tx) : W p l e R s m args below meth c H locs cells slots Q (F0 m pc ls (.int i :: .ref a :: rest)) := by
  intro T hT X
  obtain ⟨t, st, q⟩ := k _ rfl T hT X
  refine ⟨t, ?_, q⟩
  have h1 := X.faloadOut hexec (by rw [hT]; exact hP q0 _ ha) ((hK.2 t0 _ ht).1 n (fun j => .float (f j))) (j := i) (by show (i < 0 ∨ (arrV _ _ _).slots.size ≤ _); rw [arrV_size]; exact Classical.byContradiction hout) (g := F0 m pc ls (.int i :: .ref a :: rest)) rfl (rest := rest) rfl (by rw [hb]; exact hdg) t
  simp only [arrV_size] at h1
  exact h1 st
theorem vx_fastZ {D : va_G} {cl : List vw_C} {ws : va_W} {tys : List (ClassId × FieldType)} {a : Nat} (hexec : p.tables.exec = Jvm.exec) (hb : c.code = cc) (hK : va_K D cl tys s) (hP : va_P D cl ws H) (q0 t0 : Nat) {cA : ClassId} {n : Nat} {f : Nat → UInt32} (ha : ws[q0]? = some (a, .inl (cA, n, .inr (.inr (.inl f))))) (ht : tys[t0]? = some (cA, .float)) {i : Int32} {x : UInt32} (hout : ¬ vp_in i n) (hdg : decode cc pc = .ok (.fastore, 1))
    (k : ∀ tx : String, tx = (toString "Index " ++ toString i ++ toString " out of bounds for length " ++ toString n : String) → vx_Note p l e R s m args below meth c H locs cells slots Q (F0 m pc ls rest) "java/lang/ArrayIndexOutOfBoundsException" tx) : W p l e R s m args below meth c H locs cells slots Q (F0 m pc ls (.float x :: .int i :: .ref a :: rest)) := by
  intro T hT X
  obtain ⟨t, st, q⟩ := k _ rfl T hT X
  refine ⟨t, ?_, q⟩
  have h1 := X.fastoreOut hexec (by rw [hT]; exact hP q0 _ ha) ((hK.2 t0 _ ht).1 n (fun j => .float (f j))) (j := i) (by show (i < 0 ∨ (arrV _ _ _).slots.size ≤ _); rw [arrV_size]; exact Classical.byContradiction hout) (g := F0 m pc ls (.float x :: .int i :: .ref a :: rest)) rfl (rest := rest) rfl (by rw [hb]; exact hdg) t
  simp only [arrV_size] at h1
  exact h1 st
theorem vx_daldZ {D : va_G} {cl : List vw_C} {ws : va_W} {tys : List (ClassId × FieldType)} {a : Nat} (hexec : p.tables.exec = Jvm.exec) (hb : c.code = cc) (hK : va_K D cl tys s) (hP : va_P D cl ws H) (q0 t0 : Nat) {cA : ClassId} {n : Nat} {f : Nat → UInt64} (ha : ws[q0]? = some (a, .inl (cA, n, .inr (.inr (.inr (.inl f)))))) (ht : tys[t0]? = some (cA, .double)) {i : Int32} (hout : ¬ vp_in i n) (hdg : decode cc pc = .ok (.daload, 1))
    (k : ∀ tx : String, tx = (toString "Index " ++ toString i ++ toString " out of bounds for length " ++ toString n : String) → vx_Note p l e R s m args below meth c H locs cells slots Q (F0 m pc ls rest) "java/lang/ArrayIndexOutOfBoundsException" tx) : W p l e R s m args below meth c H locs cells slots Q (F0 m pc ls (.int i :: .ref a :: rest)) := by
  intro T hT X
  obtain ⟨t, st, q⟩ := k _ rfl T hT X
  refine ⟨t, ?_, q⟩
  have h1 := X.daloadOut hexec (by rw [hT]; exact hP q0 _ ha) ((hK.2 t0 _ ht).1 n (fun j => .double (f j))) (j := i) (by show (i < 0 ∨ (arrV _ _ _).slots.size ≤ _); rw [arrV_size]; exact Classical.byContradiction hout) (g := F0 m pc ls (.int i :: .ref a :: rest)) rfl (rest := rest) rfl (by rw [hb]; exact hdg) t
  simp only [arrV_size] at h1
  exact h1 st
theorem vx_dastZ {D : va_G} {cl : List vw_C} {ws : va_W} {tys : List (ClassId × FieldType)} {a : Nat} (hexec : p.tables.exec = Jvm.exec) (hb : c.code = cc) (hK : va_K D cl tys s) (hP : va_P D cl ws H) (q0 t0 : Nat) {cA : ClassId} {n : Nat} {f : Nat → UInt64} (ha : ws[q0]? = some (a, .inl (cA, n, .inr (.inr (.inr (.inl f)))))) (ht : tys[t0]? = some (cA, .double)) {i : Int32} {x : UInt64} (hout : ¬ vp_in i n) (hdg : decode cc pc = .ok (.dastore, 1))
    (k : ∀ tx : String, tx = (toString "Index " ++ toString i ++ toString " out of bounds for length " ++ toString n : String) → vx_Note p l e R s m args below meth c H locs cells slots Q (F0 m pc ls rest) "java/lang/ArrayIndexOutOfBoundsException" tx) : W p l e R s m args below meth c H locs cells slots Q (F0 m pc ls (.double x :: .int i :: .ref a :: rest)) := by
  intro T hT X
  obtain ⟨t, st, q⟩ := k _ rfl T hT X
  refine ⟨t, ?_, q⟩
  have h1 := X.dastoreOut hexec (by rw [hT]; exact hP q0 _ ha) ((hK.2 t0 _ ht).1 n (fun j => .double (f j))) (j := i) (by show (i < 0 ∨ (arrV _ _ _).slots.size ≤ _); rw [arrV_size]; exact Classical.byContradiction hout) (g := F0 m pc ls (.double x :: .int i :: .ref a :: rest)) rfl (rest := rest) rfl (by rw [hb]; exact hdg) t
  simp only [arrV_size] at h1
  exact h1 st
theorem vx_arraylengthN (hexec : p.tables.exec = Jvm.exec) (hb : c.code = cc) (hdg : decode cc pc = .ok (.arraylength, 1)) (k : vx_NoteN p l e R s m args below meth c H locs cells slots Q (F0 m pc ls rest)) : W p l e R s m args below meth c H locs cells slots Q (F0 m pc ls (.null :: rest)) := by
  intro T hT X
  obtain ⟨t, st, q⟩ := k T hT X
  exact ⟨t, X.arraylengthNull hexec (g := F0 m pc ls (.null :: rest)) rfl (rest := rest) rfl (by rw [hb]; exact hdg) t st, q⟩
theorem vx_ialoadN (hexec : p.tables.exec = Jvm.exec) (hb : c.code = cc) {i : Int32} (hdg : decode cc pc = .ok (.iaload, 1)) (k : vx_NoteN p l e R s m args below meth c H locs cells slots Q (F0 m pc ls rest)) : W p l e R s m args below meth c H locs cells slots Q (F0 m pc ls (.int i :: .null :: rest)) := by
  intro T hT X
  obtain ⟨t, st, q⟩ := k T hT X
  exact ⟨t, X.ialoadNull hexec (g := F0 m pc ls (.int i :: .null :: rest)) rfl (rest := rest) rfl (by rw [hb]; exact hdg) t st, q⟩
theorem vx_laloadN (hexec : p.tables.exec = Jvm.exec) (hb : c.code = cc) {i : Int32} (hdg : decode cc pc = .ok (.laload, 1)) (k : vx_NoteN p l e R s m args below meth c H locs cells slots Q (F0 m pc ls rest)) : W p l e R s m args below meth c H locs cells slots Q (F0 m pc ls (.int i :: .null :: rest)) := by
  intro T hT X
  obtain ⟨t, st, q⟩ := k T hT X
  exact ⟨t, X.laloadNull hexec (g := F0 m pc ls (.int i :: .null :: rest)) rfl (rest := rest) rfl (by rw [hb]; exact hdg) t st, q⟩
theorem vx_faloadN (hexec : p.tables.exec = Jvm.exec) (hb : c.code = cc) {i : Int32} (hdg : decode cc pc = .ok (.faload, 1)) (k : vx_NoteN p l e R s m args below meth c H locs cells slots Q (F0 m pc ls rest)) : W p l e R s m args below meth c H locs cells slots Q (F0 m pc ls (.int i :: .null :: rest)) := by
  intro T hT X
  obtain ⟨t, st, q⟩ := k T hT X
  exact ⟨t, X.faloadNull hexec (g := F0 m pc ls (.int i :: .null :: rest)) rfl (rest := rest) rfl (by rw [hb]; exact hdg) t st, q⟩
theorem vx_daloadN (hexec : p.tables.exec = Jvm.exec) (hb : c.code = cc) {i : Int32} (hdg : decode cc pc = .ok (.daload, 1)) (k : vx_NoteN p l e R s m args below meth c H locs cells slots Q (F0 m pc ls rest)) : W p l e R s m args below meth c H locs cells slots Q (F0 m pc ls (.int i :: .null :: rest)) := by
  intro T hT X
  obtain ⟨t, st, q⟩ := k T hT X
  exact ⟨t, X.daloadNull hexec (g := F0 m pc ls (.int i :: .null :: rest)) rfl (rest := rest) rfl (by rw [hb]; exact hdg) t st, q⟩
theorem vx_aaloadN (hexec : p.tables.exec = Jvm.exec) (hb : c.code = cc) {i : Int32} (hdg : decode cc pc = .ok (.aaload, 1)) (k : vx_NoteN p l e R s m args below meth c H locs cells slots Q (F0 m pc ls rest)) : W p l e R s m args below meth c H locs cells slots Q (F0 m pc ls (.int i :: .null :: rest)) := by
  intro T hT X
  obtain ⟨t, st, q⟩ := k T hT X
  exact ⟨t, X.aaloadNull hexec (g := F0 m pc ls (.int i :: .null :: rest)) rfl (rest := rest) rfl (by rw [hb]; exact hdg) t st, q⟩
theorem vx_baloadN (hexec : p.tables.exec = Jvm.exec) (hb : c.code = cc) {i : Int32} (hdg : decode cc pc = .ok (.baload, 1)) (k : vx_NoteN p l e R s m args below meth c H locs cells slots Q (F0 m pc ls rest)) : W p l e R s m args below meth c H locs cells slots Q (F0 m pc ls (.int i :: .null :: rest)) := by
  intro T hT X
  obtain ⟨t, st, q⟩ := k T hT X
  exact ⟨t, X.baloadNull hexec (g := F0 m pc ls (.int i :: .null :: rest)) rfl (rest := rest) rfl (by rw [hb]; exact hdg) t st, q⟩
theorem vx_caloadN (hexec : p.tables.exec = Jvm.exec) (hb : c.code = cc) {i : Int32} (hdg : decode cc pc = .ok (.caload, 1)) (k : vx_NoteN p l e R s m args below meth c H locs cells slots Q (F0 m pc ls rest)) : W p l e R s m args below meth c H locs cells slots Q (F0 m pc ls (.int i :: .null :: rest)) := by
  intro T hT X
  obtain ⟨t, st, q⟩ := k T hT X
  exact ⟨t, X.caloadNull hexec (g := F0 m pc ls (.int i :: .null :: rest)) rfl (rest := rest) rfl (by rw [hb]; exact hdg) t st, q⟩
theorem vx_saloadN (hexec : p.tables.exec = Jvm.exec) (hb : c.code = cc) {i : Int32} (hdg : decode cc pc = .ok (.saload, 1)) (k : vx_NoteN p l e R s m args below meth c H locs cells slots Q (F0 m pc ls rest)) : W p l e R s m args below meth c H locs cells slots Q (F0 m pc ls (.int i :: .null :: rest)) := by
  intro T hT X
  obtain ⟨t, st, q⟩ := k T hT X
  exact ⟨t, X.saloadNull hexec (g := F0 m pc ls (.int i :: .null :: rest)) rfl (rest := rest) rfl (by rw [hb]; exact hdg) t st, q⟩
theorem vx_iastoreN (hexec : p.tables.exec = Jvm.exec) (hb : c.code = cc) {x : Int32} {i : Int32} (hdg : decode cc pc = .ok (.iastore, 1)) (k : vx_NoteN p l e R s m args below meth c H locs cells slots Q (F0 m pc ls rest)) : W p l e R s m args below meth c H locs cells slots Q (F0 m pc ls (.int x :: .int i :: .null :: rest)) := by
  intro T hT X
  obtain ⟨t, st, q⟩ := k T hT X
  exact ⟨t, X.iastoreNull hexec (g := F0 m pc ls (.int x :: .int i :: .null :: rest)) rfl (rest := rest) rfl (by rw [hb]; exact hdg) t st, q⟩
theorem vx_lastoreN (hexec : p.tables.exec = Jvm.exec) (hb : c.code = cc) {x : Int64} {i : Int32} (hdg : decode cc pc = .ok (.lastore, 1)) (k : vx_NoteN p l e R s m args below meth c H locs cells slots Q (F0 m pc ls rest)) : W p l e R s m args below meth c H locs cells slots Q (F0 m pc ls (.long x :: .int i :: .null :: rest)) := by
  intro T hT X
  obtain ⟨t, st, q⟩ := k T hT X
  exact ⟨t, X.lastoreNull hexec (g := F0 m pc ls (.long x :: .int i :: .null :: rest)) rfl (rest := rest) rfl (by rw [hb]; exact hdg) t st, q⟩
theorem vx_fastoreN (hexec : p.tables.exec = Jvm.exec) (hb : c.code = cc) {x : UInt32} {i : Int32} (hdg : decode cc pc = .ok (.fastore, 1)) (k : vx_NoteN p l e R s m args below meth c H locs cells slots Q (F0 m pc ls rest)) : W p l e R s m args below meth c H locs cells slots Q (F0 m pc ls (.float x :: .int i :: .null :: rest)) := by
  intro T hT X
  obtain ⟨t, st, q⟩ := k T hT X
  exact ⟨t, X.fastoreNull hexec (g := F0 m pc ls (.float x :: .int i :: .null :: rest)) rfl (rest := rest) rfl (by rw [hb]; exact hdg) t st, q⟩
theorem vx_dastoreN (hexec : p.tables.exec = Jvm.exec) (hb : c.code = cc) {x : UInt64} {i : Int32} (hdg : decode cc pc = .ok (.dastore, 1)) (k : vx_NoteN p l e R s m args below meth c H locs cells slots Q (F0 m pc ls rest)) : W p l e R s m args below meth c H locs cells slots Q (F0 m pc ls (.double x :: .int i :: .null :: rest)) := by
  intro T hT X
  obtain ⟨t, st, q⟩ := k T hT X
  exact ⟨t, X.dastoreNull hexec (g := F0 m pc ls (.double x :: .int i :: .null :: rest)) rfl (rest := rest) rfl (by rw [hb]; exact hdg) t st, q⟩
theorem vx_bastoreN (hexec : p.tables.exec = Jvm.exec) (hb : c.code = cc) {x : Int32} {i : Int32} (hdg : decode cc pc = .ok (.bastore, 1)) (k : vx_NoteN p l e R s m args below meth c H locs cells slots Q (F0 m pc ls rest)) : W p l e R s m args below meth c H locs cells slots Q (F0 m pc ls (.int x :: .int i :: .null :: rest)) := by
  intro T hT X
  obtain ⟨t, st, q⟩ := k T hT X
  exact ⟨t, X.bastoreNull hexec (g := F0 m pc ls (.int x :: .int i :: .null :: rest)) rfl (rest := rest) rfl (by rw [hb]; exact hdg) t st, q⟩
theorem vx_castoreN (hexec : p.tables.exec = Jvm.exec) (hb : c.code = cc) {x : Int32} {i : Int32} (hdg : decode cc pc = .ok (.castore, 1)) (k : vx_NoteN p l e R s m args below meth c H locs cells slots Q (F0 m pc ls rest)) : W p l e R s m args below meth c H locs cells slots Q (F0 m pc ls (.int x :: .int i :: .null :: rest)) := by
  intro T hT X
  obtain ⟨t, st, q⟩ := k T hT X
  exact ⟨t, X.castoreNull hexec (g := F0 m pc ls (.int x :: .int i :: .null :: rest)) rfl (rest := rest) rfl (by rw [hb]; exact hdg) t st, q⟩
theorem vx_sastoreN (hexec : p.tables.exec = Jvm.exec) (hb : c.code = cc) {x : Int32} {i : Int32} (hdg : decode cc pc = .ok (.sastore, 1)) (k : vx_NoteN p l e R s m args below meth c H locs cells slots Q (F0 m pc ls rest)) : W p l e R s m args below meth c H locs cells slots Q (F0 m pc ls (.int x :: .int i :: .null :: rest)) := by
  intro T hT X
  obtain ⟨t, st, q⟩ := k T hT X
  exact ⟨t, X.sastoreNull hexec (g := F0 m pc ls (.int x :: .int i :: .null :: rest)) rfl (rest := rest) rfl (by rw [hb]; exact hdg) t st, q⟩
theorem vx_invokeN {own C : String} {index maxL : Nat} {y : MethodName} {bytes : ByteArray} {ret : Option FieldType} (hexec : p.tables.exec = Jvm.exec) (hb : c.code = cc) (hown : s.vm.findClass own = some m.cls) (hlink : (Cond.methodLink own index y).before args s = true) (hinst : (Cond.instanceMethod y).before args s = true) (hcode : (Cond.code y bytes maxL ret).before args s = true) (hsel : (Cond.selects C y y).before args s = true)
    (hx : y.cls ≠ "java/lang/invoke/MethodHandle" ∧ y.cls ≠ "java/lang/invoke/VarHandle") {As : List Value} (hlen : (parseMethodDescriptor y.desc).map (fun d => d.parameters.length) = some As.length) (hdg : decode cc pc = .ok (.invokevirtual index, 3))
    (k : vx_NoteN p l e R s m args below meth c H locs cells slots Q (F0 m pc ls rest)) {st0 : List Value} (hst : st0 = As.reverse ++ .null :: rest) : W p l e R s m args below meth c H locs cells slots Q (F0 m pc ls st0) := by
  intro T hT X
  obtain ⟨r0, r, hn, hrm, hstR, hsigR⟩ := va_Decl.of hinst hcode
  obtain ⟨c2, r2, m2, q1, q2, q3, q4, kP, hkP, hkPi⟩ := Cond.selects_spec hsel
  cases hn.symm.trans q3
  have hl9 : As.length = r.sig.parameters.length := by
    rw [hsigR] at hlen
    exact (Option.some.inj hlen).symm
  obtain ⟨vm', X1, st1⟩ := X.invokevirtualNull hexec hown hlink hn hrm hstR hkP hkPi hx (g := F0 m pc ls st0) rfl (argsL := As) (rest := rest) hl9 hst (by rw [hb]; exact hdg)
  obtain ⟨t, st, q⟩ := k (T.setVm vm') hT X1
  exact ⟨t, st1 t st, q⟩
theorem vx_newarrayZ {atype : ArrayType} (hexec : p.tables.exec = Jvm.exec) (hb : c.code = cc) {n : Int32} (h0 : n < 0) (hdg : decode cc pc = .ok (.newarray atype, 2)) (k : ∀ tx : String, tx = toString n → vx_Note p l e R s m args below meth c H locs cells slots Q (F0 m pc ls rest) "java/lang/NegativeArraySizeException" tx) : W p l e R s m args below meth c H locs cells slots Q (F0 m pc ls (.int n :: rest)) := by
  intro T hT X
  obtain ⟨t, st, q⟩ := k _ rfl T hT X
  exact ⟨t, X.newarrayNegative hexec (g := F0 m pc ls (.int n :: rest)) rfl h0 (rest := rest) rfl (by rw [hb]; exact hdg) t st, q⟩
end
end VXM
/-! ===== END ===== -/
end
section
/-! ===== BEGIN printed: names, fields, word lists, decode rows ===== -/
def RX0 : String := "UnwindRig$Level"
def TX0 : u_T := fun k => match k with
  | 0 => ("UnwindRig$Level", "takes", "I", false)
  | 1 => ("UnwindRig$Level", "then", "I", false)
  | 2 => ("UnwindRig$Level", "last", "I", false)
  | _ => ("UnwindRig$Level", "value", "I", false)
def tyX0 : Nat → FieldType := fun k => match k with
  | 0 => .int
  | 1 => .int
  | 2 => .int
  | _ => .int
abbrev wsX00 : List Cond := u_ws RX0 TX0 4
theorem nmX0 : ∀ a, a < 4 → ∀ b, b < 4 → a ≠ b → (TX0 a).2.1 ≠ (TX0 b).2.1 := by decide +kernel
theorem tyX0_ok : ∀ k, k < 4 → parseFieldDescriptor (TX0 k).2.2.1 = some (tyX0 k) := by decide +kernel
abbrev cX0_init : ByteArray := prog_2_method_1_code
def yX0_init : MethodName := ⟨RX0, "<init>", "()V"⟩
abbrev cX0_takesKind : ByteArray := prog_2_method_2_code
def yX0_takesKind : MethodName := ⟨RX0, "takesKind", "(I)Z"⟩
def RX1 : String := "UnwindRig$Notes"
def TX1 : u_T := fun k => match k with
  | 0 => ("UnwindRig$Notes", "row", "[I", true)
  | _ => ("UnwindRig$Notes", "made", "I", false)
def tyX1 : Nat → FieldType := fun k => match k with
  | 0 => .array .int
  | _ => .int
abbrev wsX10 : List Cond := u_ws RX1 TX1 2
theorem nmX1 : ∀ a, a < 2 → ∀ b, b < 2 → a ≠ b → (TX1 a).2.1 ≠ (TX1 b).2.1 := by decide +kernel
theorem tyX1_ok : ∀ k, k < 2 → parseFieldDescriptor (TX1 k).2.2.1 = some (tyX1 k) := by decide +kernel
abbrev cX1_init : ByteArray := prog_3_method_1_code
def yX1_init : MethodName := ⟨RX1, "<init>", "()V"⟩
abbrev cX1_beginAnew : ByteArray := prog_3_method_2_code
def yX1_beginAnew : MethodName := ⟨RX1, "beginAnew", "()V"⟩
abbrev cX1_add : ByteArray := prog_3_method_3_code
def yX1_add : MethodName := ⟨RX1, "add", "(I)V"⟩
abbrev cX1_kept : ByteArray := prog_3_method_4_code
def yX1_kept : MethodName := ⟨RX1, "kept", "()I"⟩
def RX2 : String := "UnwindRig$Thrown"
def TX2 : u_T := fun k => match k with
  | 0 => ("UnwindRig$Thrown", "kinds", "[I", true)
  | 1 => ("UnwindRig$Thrown", "numbers", "[I", true)
  | _ => ("UnwindRig$Thrown", "height", "I", false)
def tyX2 : Nat → FieldType := fun k => match k with
  | 0 => .array .int
  | 1 => .array .int
  | _ => .int
abbrev wsX20 : List Cond := u_ws RX2 TX2 3
theorem nmX2 : ∀ a, a < 3 → ∀ b, b < 3 → a ≠ b → (TX2 a).2.1 ≠ (TX2 b).2.1 := by decide +kernel
theorem tyX2_ok : ∀ k, k < 3 → parseFieldDescriptor (TX2 k).2.2.1 = some (tyX2 k) := by decide +kernel
abbrev cX2_init : ByteArray := prog_4_method_1_code
def yX2_init : MethodName := ⟨RX2, "<init>", "()V"⟩
abbrev cX2_drop : ByteArray := prog_4_method_2_code
def yX2_drop : MethodName := ⟨RX2, "drop", "()V"⟩
abbrev cX2_wrap : ByteArray := prog_4_method_3_code
def yX2_wrap : MethodName := ⟨RX2, "wrap", "(II)V"⟩
abbrev cX2_kind : ByteArray := prog_4_method_4_code
def yX2_kind : MethodName := ⟨RX2, "kind", "()I"⟩
abbrev cX2_number : ByteArray := prog_4_method_5_code
def yX2_number : MethodName := ⟨RX2, "number", "()I"⟩
abbrev cX2_causes : ByteArray := prog_4_method_6_code
def yX2_causes : MethodName := ⟨RX2, "causes", "()I"⟩
abbrev cX2_lastCauseKind : ByteArray := prog_4_method_7_code
def yX2_lastCauseKind : MethodName := ⟨RX2, "lastCauseKind", "()I"⟩
abbrev cX2_lastCauseNumber : ByteArray := prog_4_method_8_code
def yX2_lastCauseNumber : MethodName := ⟨RX2, "lastCauseNumber", "()I"⟩
def RX3 : String := "UnwindRig"
def TX3 : u_T := fun k => match k with
  | 0 => ("UnwindRig", "levels", "[LUnwindRig$Level;", true)
  | 1 => ("UnwindRig", "notes", "LUnwindRig$Notes;", true)
  | 2 => ("UnwindRig", "thrown", "LUnwindRig$Thrown;", true)
  | _ => ("UnwindRig", "runs", "I", false)
def tyX3 : Nat → FieldType := fun k => match k with
  | 0 => .array (.object "UnwindRig$Level")
  | 1 => .object "UnwindRig$Notes"
  | 2 => .object "UnwindRig$Thrown"
  | _ => .int
abbrev wsX30 : List Cond := u_ws RX3 TX3 4
theorem nmX3 : ∀ a, a < 4 → ∀ b, b < 4 → a ≠ b → (TX3 a).2.1 ≠ (TX3 b).2.1 := by decide +kernel
theorem tyX3_ok : ∀ k, k < 4 → parseFieldDescriptor (TX3 k).2.2.1 = some (tyX3 k) := by decide +kernel
abbrev cX3_init : ByteArray := prog_1_method_1_code
def yX3_init : MethodName := ⟨RX3, "<init>", "()V"⟩
abbrev cX3_set : ByteArray := prog_1_method_2_code
def yX3_set : MethodName := ⟨RX3, "set", "(IIIII)I"⟩
abbrev cX3_run : ByteArray := prog_1_method_3_code
def yX3_run : MethodName := ⟨RX3, "run", "(III)J"⟩
abbrev cX3_note : ByteArray := prog_1_method_4_code
def yX3_note : MethodName := ⟨RX3, "note", "(I)I"⟩
abbrev cX3_count : ByteArray := prog_1_method_5_code
def yX3_count : MethodName := ⟨RX3, "count", "(I)I"⟩
abbrev cX3_isLevel : ByteArray := prog_1_method_6_code
def yX3_isLevel : MethodName := ⟨RX3, "isLevel", "(I)Z"⟩
abbrev cX3_doLevel : ByteArray := prog_1_method_7_code
def yX3_doLevel : MethodName := ⟨RX3, "doLevel", "(III)J"⟩
abbrev cX3_goDown : ByteArray := prog_1_method_8_code
def yX3_goDown : MethodName := ⟨RX3, "goDown", "(III)J"⟩
abbrev cX3_doThen : ByteArray := prog_1_method_9_code
def yX3_doThen : MethodName := ⟨RX3, "doThen", "(I)J"⟩
abbrev cX3_doLast : ByteArray := prog_1_method_10_code
def yX3_doLast : MethodName := ⟨RX3, "doLast", "(IJ)J"⟩
abbrev cX3_reachBottom : ByteArray := prog_1_method_11_code
def yX3_reachBottom : MethodName := ⟨RX3, "reachBottom", "(II)J"⟩
abbrev cX3_throwFromWithin : ByteArray := prog_1_method_12_code
def yX3_throwFromWithin : MethodName := ⟨RX3, "throwFromWithin", "(I)J"⟩
abbrev cX3_throwNew : ByteArray := prog_1_method_13_code
def yX3_throwNew : MethodName := ⟨RX3, "throwNew", "(II)J"⟩
abbrev cX3_throwOut : ByteArray := prog_1_method_14_code
def yX3_throwOut : MethodName := ⟨RX3, "throwOut", "(I)V"⟩
def RX4 : String := "UnwindRigModel"
def TX4 : u_T := fun k => match k with
  | _ => ("", "", "", false)
def tyX4 : Nat → FieldType := fun k => match k with
  | _ => .int
abbrev wsX40 : List Cond := u_ws RX4 TX4 0
theorem nmX4 : ∀ a, a < 0 → ∀ b, b < 0 → a ≠ b → (TX4 a).2.1 ≠ (TX4 b).2.1 := by decide +kernel
theorem tyX4_ok : ∀ k, k < 0 → parseFieldDescriptor (TX4 k).2.2.1 = some (tyX4 k) := by decide +kernel
def RJx00060 : String := "java/lang/ArrayIndexOutOfBoundsException"
def TJx00060 : u_T := fun k => match k with
  | 0 => ("java/lang/Throwable", "backtrace", "Ljava/lang/Object;", false)
  | 1 => ("java/lang/Throwable", "detailMessage", "Ljava/lang/String;", false)
  | 2 => ("java/lang/Throwable", "cause", "Ljava/lang/Throwable;", false)
  | 3 => ("java/lang/Throwable", "stackTrace", "[Ljava/lang/StackTraceElement;", false)
  | 4 => ("java/lang/Throwable", "depth", "I", false)
  | _ => ("java/lang/Throwable", "suppressedExceptions", "Ljava/util/List;", false)
def tyJx00060 : Nat → FieldType := fun k => match k with
  | 0 => .object "java/lang/Object"
  | 1 => .object "java/lang/String"
  | 2 => .object "java/lang/Throwable"
  | 3 => .array (.object "java/lang/StackTraceElement")
  | 4 => .int
  | _ => .object "java/util/List"
abbrev wsJx000600 : List Cond := u_ws RJx00060 TJx00060 6
theorem nmJx00060 : ∀ a, a < 6 → ∀ b, b < 6 → a ≠ b → (TJx00060 a).2.1 ≠ (TJx00060 b).2.1 := by decide +kernel
theorem tyJx00060_ok : ∀ k, k < 6 → parseFieldDescriptor (TJx00060 k).2.2.1 = some (tyJx00060 k) := by decide +kernel
abbrev cJx00060_init_a7421 : ByteArray := prog_8_method_2_code
def yJx00060_init_a7421 : MethodName := ⟨RJx00060, "<init>", "(Ljava/lang/String;)V"⟩
def RJ9 : String := "java/lang/Math"
def TJ9 : u_T := fun k => match k with
  | _ => ("", "", "", false)
def tyJ9 : Nat → FieldType := fun k => match k with
  | _ => .int
abbrev wsJ90 : List Cond := u_ws RJ9 TJ9 0
theorem nmJ9 : ∀ a, a < 0 → ∀ b, b < 0 → a ≠ b → (TJ9 a).2.1 ≠ (TJ9 b).2.1 := by decide +kernel
theorem tyJ9_ok : ∀ k, k < 0 → parseFieldDescriptor (TJ9 k).2.2.1 = some (tyJ9 k) := by decide +kernel
abbrev cJ9_min_7cf53 : ByteArray := prog_12_method_69_code
def yJ9_min_7cf53 : MethodName := ⟨RJ9, "min", "(II)I"⟩
def RJx5d777 : String := "java/lang/NullPointerException"
def TJx5d777 : u_T := fun k => match k with
  | 0 => ("java/lang/Throwable", "backtrace", "Ljava/lang/Object;", false)
  | 1 => ("java/lang/Throwable", "detailMessage", "Ljava/lang/String;", false)
  | 2 => ("java/lang/Throwable", "cause", "Ljava/lang/Throwable;", false)
  | 3 => ("java/lang/Throwable", "stackTrace", "[Ljava/lang/StackTraceElement;", false)
  | 4 => ("java/lang/Throwable", "depth", "I", false)
  | 5 => ("java/lang/Throwable", "suppressedExceptions", "Ljava/util/List;", false)
  | 6 => ("java/lang/NullPointerException", "extendedMessageState", "I", false)
  | _ => ("java/lang/NullPointerException", "extendedMessage", "Ljava/lang/String;", false)
def tyJx5d777 : Nat → FieldType := fun k => match k with
  | 0 => .object "java/lang/Object"
  | 1 => .object "java/lang/String"
  | 2 => .object "java/lang/Throwable"
  | 3 => .array (.object "java/lang/StackTraceElement")
  | 4 => .int
  | 5 => .object "java/util/List"
  | 6 => .int
  | _ => .object "java/lang/String"
abbrev wsJx5d7770 : List Cond := u_ws RJx5d777 TJx5d777 8
theorem nmJx5d777 : ∀ a, a < 8 → ∀ b, b < 8 → a ≠ b → (TJx5d777 a).2.1 ≠ (TJx5d777 b).2.1 := by decide +kernel
theorem tyJx5d777_ok : ∀ k, k < 8 → parseFieldDescriptor (TJx5d777 k).2.2.1 = some (tyJx5d777 k) := by decide +kernel
abbrev cJx5d777_init_da8c8 : ByteArray := prog_13_method_1_code
def yJx5d777_init_da8c8 : MethodName := ⟨RJx5d777, "<init>", "()V"⟩
abbrev cJx5d777_init_a7421 : ByteArray := prog_13_method_2_code
def yJx5d777_init_a7421 : MethodName := ⟨RJx5d777, "<init>", "(Ljava/lang/String;)V"⟩
abbrev cJx5d777_fillInStackTrace_cddbd : ByteArray := prog_13_method_3_code
def yJx5d777_fillInStackTrace_cddbd : MethodName := ⟨RJx5d777, "fillInStackTrace", "()Ljava/lang/Throwable;"⟩
def RJ0 : String := "java/lang/String"
def TJ0 : u_T := fun k => match k with
  | 0 => ("java/lang/String", "value", "[B", true)
  | _ => ("java/lang/String", "coder", "B", true)
def tyJ0 : Nat → FieldType := fun k => match k with
  | 0 => .array .byte
  | _ => .byte
abbrev wsJ00 : List Cond := u_ws RJ0 TJ0 2
theorem nmJ0 : ∀ a, a < 2 → ∀ b, b < 2 → a ≠ b → (TJ0 a).2.1 ≠ (TJ0 b).2.1 := by decide +kernel
theorem tyJ0_ok : ∀ k, k < 2 → parseFieldDescriptor (TJ0 k).2.2.1 = some (tyJ0 k) := by decide +kernel
def RL : String := "UnwindRigLaw"
abbrev cL_set : ByteArray := method_2_code
def yL_set : MethodName := ⟨RL, "set", "(LUnwindRig;IIIII)I"⟩
abbrev cL_run : ByteArray := method_3_code
def yL_run : MethodName := ⟨RL, "run", "(LUnwindRig;III)J"⟩
abbrev cL_note : ByteArray := method_4_code
def yL_note : MethodName := ⟨RL, "note", "(LUnwindRig;I)I"⟩
abbrev cL_count : ByteArray := method_5_code
def yL_count : MethodName := ⟨RL, "count", "(LUnwindRig;I)I"⟩
abbrev cL_law : ByteArray := code
def yL_law : MethodName := ⟨RL, "law", "([I)Z"⟩
def wsX0_init : List Cond := .code yX0_init cX0_init 1 none :: ([.methodLink RX0 3 objectInit, .instanceMethod objectInit, .code objectInit ⟨#[0xb1]⟩ 1 none])
def wsX0_takesKind : List Cond := .code yX0_takesKind cX0_takesKind 2 (some .boolean) :: ([.fieldLink RX0 9 "UnwindRig$Level" "takes" "I"] ++ wsX00)
def wsX1_init : List Cond := .code yX1_init cX1_init 1 none :: ([.methodLink RX1 3 objectInit, .instanceMethod objectInit, .code objectInit ⟨#[0xb1]⟩ 1 none, .arrayClass .int, .fieldLink RX1 9 "UnwindRig$Notes" "row" "[I"] ++ wsX10)
def wsX1_beginAnew : List Cond := .code yX1_beginAnew cX1_beginAnew 1 none :: ([.fieldLink RX1 15 "UnwindRig$Notes" "made" "I"] ++ wsX10)
def wsX1_add : List Cond := .code yX1_add cX1_add 2 none :: ([.fieldLink RX1 15 "UnwindRig$Notes" "made" "I", .fieldLink RX1 9 "UnwindRig$Notes" "row" "[I"] ++ wsX10 ++ (vx_atN 8).filter goodWord ++ (vx_atM "java/lang/ArrayIndexOutOfBoundsException" ["java/lang/IndexOutOfBoundsException", "java/lang/RuntimeException", "java/lang/Exception"]).filter goodWord)
def wsX1_kept : List Cond := .code yX1_kept cX1_kept 1 (some .int) :: ([.fieldLink RX1 15 "UnwindRig$Notes" "made" "I", .fieldLink RX1 9 "UnwindRig$Notes" "row" "[I", .methodLink RX1 19 Lib.Math.min.name, .static Lib.Math.min.name, .initialized "java/lang/Math", .code Lib.Math.min.name Lib.Math.min.code 2 (some .int)] ++ wsX10 ++ (vx_atN 8).filter goodWord)
def wsX2_init : List Cond := .code yX2_init cX2_init 1 none :: ([.methodLink RX2 3 objectInit, .instanceMethod objectInit, .code objectInit ⟨#[0xb1]⟩ 1 none, .arrayClass .int, .fieldLink RX2 11 "UnwindRig$Thrown" "kinds" "[I", .fieldLink RX2 15 "UnwindRig$Thrown" "numbers" "[I"] ++ wsX20)
def wsX2_drop : List Cond := .code yX2_drop cX2_drop 1 none :: ([.fieldLink RX2 18 "UnwindRig$Thrown" "height" "I"] ++ wsX20)
def wsX2_wrap : List Cond := .code yX2_wrap cX2_wrap 3 none :: ([.fieldLink RX2 18 "UnwindRig$Thrown" "height" "I", .fieldLink RX2 11 "UnwindRig$Thrown" "kinds" "[I", .fieldLink RX2 15 "UnwindRig$Thrown" "numbers" "[I"] ++ wsX20 ++ (vx_atM "java/lang/ArrayIndexOutOfBoundsException" ["java/lang/IndexOutOfBoundsException", "java/lang/RuntimeException", "java/lang/Exception"]).filter goodWord ++ (vx_atN 8).filter goodWord)
def wsX2_kind : List Cond := .code yX2_kind cX2_kind 1 (some .int) :: ([.fieldLink RX2 18 "UnwindRig$Thrown" "height" "I", .fieldLink RX2 11 "UnwindRig$Thrown" "kinds" "[I"] ++ wsX20 ++ (vx_atM "java/lang/ArrayIndexOutOfBoundsException" ["java/lang/IndexOutOfBoundsException", "java/lang/RuntimeException", "java/lang/Exception"]).filter goodWord ++ (vx_atN 8).filter goodWord)
def wsX2_number : List Cond := .code yX2_number cX2_number 1 (some .int) :: ([.fieldLink RX2 18 "UnwindRig$Thrown" "height" "I", .fieldLink RX2 15 "UnwindRig$Thrown" "numbers" "[I"] ++ wsX20 ++ (vx_atM "java/lang/ArrayIndexOutOfBoundsException" ["java/lang/IndexOutOfBoundsException", "java/lang/RuntimeException", "java/lang/Exception"]).filter goodWord ++ (vx_atN 8).filter goodWord)
def wsX2_causes : List Cond := .code yX2_causes cX2_causes 1 (some .int) :: ([.fieldLink RX2 18 "UnwindRig$Thrown" "height" "I"] ++ wsX20)
def wsX2_lastCauseKind : List Cond := .code yX2_lastCauseKind cX2_lastCauseKind 1 (some .int) :: ([.fieldLink RX2 11 "UnwindRig$Thrown" "kinds" "[I", .methodLink RX2 22 yX2_causes, .instanceMethod yX2_causes, .selects RX2 yX2_causes yX2_causes, .initialized RX2, .code yX2_causes cX2_causes 1 (some .int), .fieldLink RX2 18 "UnwindRig$Thrown" "height" "I"] ++ wsX20 ++ (vx_atN 8).filter goodWord ++ (vx_atM "java/lang/ArrayIndexOutOfBoundsException" ["java/lang/IndexOutOfBoundsException", "java/lang/RuntimeException", "java/lang/Exception"]).filter goodWord)
def wsX2_lastCauseNumber : List Cond := .code yX2_lastCauseNumber cX2_lastCauseNumber 1 (some .int) :: ([.fieldLink RX2 15 "UnwindRig$Thrown" "numbers" "[I", .methodLink RX2 22 yX2_causes, .instanceMethod yX2_causes, .selects RX2 yX2_causes yX2_causes, .initialized RX2, .code yX2_causes cX2_causes 1 (some .int), .fieldLink RX2 18 "UnwindRig$Thrown" "height" "I"] ++ wsX20 ++ (vx_atN 8).filter goodWord ++ (vx_atM "java/lang/ArrayIndexOutOfBoundsException" ["java/lang/IndexOutOfBoundsException", "java/lang/RuntimeException", "java/lang/Exception"]).filter goodWord)
def wsX3_init_r1 : List Cond := [Cond.methodLink RX3 1 objectInit, Cond.instanceMethod objectInit, Cond.code objectInit ⟨#[0xb1]⟩ 1 none, Cond.classLink RX3 9 RX0, Cond.fieldLink RX3 11 "UnwindRig" "levels" "[LUnwindRig$Level;", Cond.classLink RX3 15 RX1, Cond.instantiable RX1 2, Cond.initialized RX1, Cond.fieldLink RX3 18 "UnwindRig" "notes" "LUnwindRig$Notes;", Cond.classLink RX3 22 RX2, Cond.instantiable RX2 3, Cond.initialized RX2, Cond.fieldLink RX3 25 "UnwindRig" "thrown" "LUnwindRig$Thrown;", Cond.instantiable RX0 4, Cond.initialized RX0, Cond.instanceMethod yX1_init, Cond.code yX1_init cX1_init 1 none, Cond.methodLink RX1 3 objectInit, Cond.arrayClass .int, Cond.fieldLink RX1 9 "UnwindRig$Notes" "row" "[I", Cond.instanceMethod yX2_init, Cond.code yX2_init cX2_init 1 none, Cond.methodLink RX2 3 objectInit, Cond.fieldLink RX2 11 "UnwindRig$Thrown" "kinds" "[I"]
def wsX3_init_r2 : List Cond := [Cond.fieldLink RX2 15 "UnwindRig$Thrown" "numbers" "[I", Cond.instanceMethod yX0_init, Cond.code yX0_init cX0_init 1 none, Cond.methodLink RX0 3 objectInit]
def wsX3_init : List Cond := .code yX3_init cX3_init 2 none :: ((wsX3_init_r1 ++ wsX3_init_r2) ++ wsX30 ++ wsX10 ++ wsX20 ++ wsX00)
def wsX3_isLevel : List Cond := .code yX3_isLevel cX3_isLevel 1 (some .boolean) :: ([])
def wsX3_set : List Cond := .code yX3_set cX3_set 8 (some .int) :: ([.classLink RX3 34 RJx00060, .instantiable RJx00060 6, .initialized RJx00060, .fieldLink RX3 11 "UnwindRig" "levels" "[LUnwindRig$Level;", .methodLink RX3 30 yX3_isLevel, .static yX3_isLevel, .initialized RX3, .code yX3_isLevel cX3_isLevel 1 (some .boolean)] ++ wsJx000600 ++ wsX30 ++ wsX00 ++ (vx_atN 8).filter goodWord)
def wsX3_throwNew : List Cond := .code yX3_throwNew cX3_throwNew 3 (some .long) :: ([.fieldLink RX3 25 "UnwindRig" "thrown" "LUnwindRig$Thrown;", .methodLink RX3 60 yX2_drop, .instanceMethod yX2_drop, .selects RX2 yX2_drop yX2_drop, .initialized RX2, .code yX2_drop cX2_drop 1 none, .fieldLink RX2 18 "UnwindRig$Thrown" "height" "I", .methodLink RX3 125 yX2_wrap, .instanceMethod yX2_wrap, .selects RX2 yX2_wrap yX2_wrap, .code yX2_wrap cX2_wrap 3 none, .fieldLink RX2 11 "UnwindRig$Thrown" "kinds" "[I", .fieldLink RX2 15 "UnwindRig$Thrown" "numbers" "[I"] ++ wsX30 ++ wsX20 ++ (vx_atN 8).filter goodWord ++ (vx_atM "java/lang/ArrayIndexOutOfBoundsException" ["java/lang/IndexOutOfBoundsException", "java/lang/RuntimeException", "java/lang/Exception"]).filter goodWord)
def wsX3_doLast_r1 : List Cond := [Cond.fieldLink RX3 11 "UnwindRig" "levels" "[LUnwindRig$Level;", Cond.fieldLink RX3 18 "UnwindRig" "notes" "LUnwindRig$Notes;", Cond.fieldLink RX3 25 "UnwindRig" "thrown" "LUnwindRig$Thrown;", Cond.methodLink RX3 104 yX1_add, Cond.instanceMethod yX1_add, Cond.selects RX1 yX1_add yX1_add, Cond.initialized RX1, Cond.code yX1_add cX1_add 2 none, Cond.fieldLink RX1 15 "UnwindRig$Notes" "made" "I", Cond.fieldLink RX1 9 "UnwindRig$Notes" "row" "[I", Cond.methodLink RX3 60 yX2_drop, Cond.instanceMethod yX2_drop, Cond.selects RX2 yX2_drop yX2_drop, Cond.initialized RX2, Cond.code yX2_drop cX2_drop 1 none, Cond.fieldLink RX2 18 "UnwindRig$Thrown" "height" "I", Cond.methodLink RX3 129 yX3_throwNew, Cond.instanceMethod yX3_throwNew, Cond.selects RX3 yX3_throwNew yX3_throwNew, Cond.initialized RX3, Cond.code yX3_throwNew cX3_throwNew 3 (some .long), Cond.methodLink RX3 125 yX2_wrap, Cond.instanceMethod yX2_wrap, Cond.selects RX2 yX2_wrap yX2_wrap]
def wsX3_doLast_r2 : List Cond := [Cond.code yX2_wrap cX2_wrap 3 none, Cond.fieldLink RX2 11 "UnwindRig$Thrown" "kinds" "[I", Cond.fieldLink RX2 15 "UnwindRig$Thrown" "numbers" "[I"]
def wsX3_doLast : List Cond := .code yX3_doLast cX3_doLast 5 (some .long) :: ((wsX3_doLast_r1 ++ wsX3_doLast_r2) ++ wsX30 ++ wsX00 ++ wsX10 ++ wsX20 ++ (vx_atN 8).filter goodWord ++ (vx_atM "java/lang/ArrayIndexOutOfBoundsException" ["java/lang/IndexOutOfBoundsException", "java/lang/RuntimeException", "java/lang/Exception"]).filter goodWord)
def wsX3_throwFromWithin_r1 : List Cond := [Cond.fieldLink RX3 18 "UnwindRig" "notes" "LUnwindRig$Notes;", Cond.methodLink RX3 104 yX1_add, Cond.instanceMethod yX1_add, Cond.selects RX1 yX1_add yX1_add, Cond.initialized RX1, Cond.code yX1_add cX1_add 2 none, Cond.fieldLink RX1 15 "UnwindRig$Notes" "made" "I", Cond.fieldLink RX1 9 "UnwindRig$Notes" "row" "[I", Cond.methodLink RX3 129 yX3_throwNew, Cond.instanceMethod yX3_throwNew, Cond.selects RX3 yX3_throwNew yX3_throwNew, Cond.initialized RX3, Cond.code yX3_throwNew cX3_throwNew 3 (some .long), Cond.fieldLink RX3 25 "UnwindRig" "thrown" "LUnwindRig$Thrown;", Cond.methodLink RX3 60 yX2_drop, Cond.instanceMethod yX2_drop, Cond.selects RX2 yX2_drop yX2_drop, Cond.initialized RX2, Cond.code yX2_drop cX2_drop 1 none, Cond.fieldLink RX2 18 "UnwindRig$Thrown" "height" "I", Cond.methodLink RX3 125 yX2_wrap, Cond.instanceMethod yX2_wrap, Cond.selects RX2 yX2_wrap yX2_wrap, Cond.code yX2_wrap cX2_wrap 3 none]
def wsX3_throwFromWithin_r2 : List Cond := [Cond.fieldLink RX2 11 "UnwindRig$Thrown" "kinds" "[I", Cond.fieldLink RX2 15 "UnwindRig$Thrown" "numbers" "[I"]
def wsX3_throwFromWithin : List Cond := .code yX3_throwFromWithin cX3_throwFromWithin 3 (some .long) :: ((wsX3_throwFromWithin_r1 ++ wsX3_throwFromWithin_r2) ++ wsX30 ++ wsX10 ++ wsX20 ++ (vx_atN 8).filter goodWord ++ (vx_atM "java/lang/ArrayIndexOutOfBoundsException" ["java/lang/IndexOutOfBoundsException", "java/lang/RuntimeException", "java/lang/Exception"]).filter goodWord)
def wsX3_reachBottom_r1 : List Cond := [Cond.constantLong RX3 132 (7), Cond.methodLink RX3 129 yX3_throwNew, Cond.instanceMethod yX3_throwNew, Cond.selects RX3 yX3_throwNew yX3_throwNew, Cond.initialized RX3, Cond.code yX3_throwNew cX3_throwNew 3 (some .long), Cond.fieldLink RX3 25 "UnwindRig" "thrown" "LUnwindRig$Thrown;", Cond.methodLink RX3 60 yX2_drop, Cond.instanceMethod yX2_drop, Cond.selects RX2 yX2_drop yX2_drop, Cond.initialized RX2, Cond.code yX2_drop cX2_drop 1 none, Cond.fieldLink RX2 18 "UnwindRig$Thrown" "height" "I", Cond.methodLink RX3 125 yX2_wrap, Cond.instanceMethod yX2_wrap, Cond.selects RX2 yX2_wrap yX2_wrap, Cond.code yX2_wrap cX2_wrap 3 none, Cond.fieldLink RX2 11 "UnwindRig$Thrown" "kinds" "[I", Cond.fieldLink RX2 15 "UnwindRig$Thrown" "numbers" "[I", Cond.methodLink RX3 134 yX3_throwFromWithin, Cond.instanceMethod yX3_throwFromWithin, Cond.selects RX3 yX3_throwFromWithin yX3_throwFromWithin, Cond.code yX3_throwFromWithin cX3_throwFromWithin 3 (some .long), Cond.fieldLink RX3 18 "UnwindRig" "notes" "LUnwindRig$Notes;"]
def wsX3_reachBottom_r2 : List Cond := [Cond.methodLink RX3 104 yX1_add, Cond.instanceMethod yX1_add, Cond.selects RX1 yX1_add yX1_add, Cond.initialized RX1, Cond.code yX1_add cX1_add 2 none, Cond.fieldLink RX1 15 "UnwindRig$Notes" "made" "I", Cond.fieldLink RX1 9 "UnwindRig$Notes" "row" "[I"]
def wsX3_reachBottom : List Cond := .code yX3_reachBottom cX3_reachBottom 3 (some .long) :: ((wsX3_reachBottom_r1 ++ wsX3_reachBottom_r2) ++ wsX30 ++ wsX20 ++ wsX10 ++ (vx_atN 8).filter goodWord ++ (vx_atM "java/lang/ArrayIndexOutOfBoundsException" ["java/lang/IndexOutOfBoundsException", "java/lang/RuntimeException", "java/lang/Exception"]).filter goodWord)
def wsX3_doLevel_r1 : List Cond := [Cond.fieldLink RX3 18 "UnwindRig" "notes" "LUnwindRig$Notes;", Cond.fieldLink RX3 11 "UnwindRig" "levels" "[LUnwindRig$Level;", Cond.fieldLink RX3 25 "UnwindRig" "thrown" "LUnwindRig$Thrown;", Cond.methodLink RX3 104 yX1_add, Cond.instanceMethod yX1_add, Cond.selects RX1 yX1_add yX1_add, Cond.initialized RX1, Cond.code yX1_add cX1_add 2 none, Cond.fieldLink RX1 15 "UnwindRig$Notes" "made" "I", Cond.fieldLink RX1 9 "UnwindRig$Notes" "row" "[I", Cond.methodLink RX3 107 yX3_goDown, Cond.instanceMethod yX3_goDown, Cond.selects RX3 yX3_goDown yX3_goDown, Cond.initialized RX3, Cond.methodLink RX3 67 yX2_kind, Cond.instanceMethod yX2_kind, Cond.selects RX2 yX2_kind yX2_kind, Cond.initialized RX2, Cond.code yX2_kind cX2_kind 1 (some .int), Cond.fieldLink RX2 18 "UnwindRig$Thrown" "height" "I", Cond.fieldLink RX2 11 "UnwindRig$Thrown" "kinds" "[I", Cond.methodLink RX3 110 yX0_takesKind, Cond.instanceMethod yX0_takesKind, Cond.selects RX0 yX0_takesKind yX0_takesKind]
def wsX3_doLevel_r2 : List Cond := [Cond.initialized RX0, Cond.code yX0_takesKind cX0_takesKind 2 (some .boolean), Cond.fieldLink RX0 9 "UnwindRig$Level" "takes" "I", Cond.methodLink RX3 113 yX3_doThen, Cond.instanceMethod yX3_doThen, Cond.selects RX3 yX3_doThen yX3_doThen, Cond.methodLink RX3 117 yX3_doLast, Cond.instanceMethod yX3_doLast, Cond.selects RX3 yX3_doLast yX3_doLast, Cond.code yX3_doLast cX3_doLast 5 (some .long), Cond.methodLink RX3 60 yX2_drop, Cond.instanceMethod yX2_drop, Cond.selects RX2 yX2_drop yX2_drop, Cond.code yX2_drop cX2_drop 1 none, Cond.methodLink RX3 129 yX3_throwNew, Cond.instanceMethod yX3_throwNew, Cond.selects RX3 yX3_throwNew yX3_throwNew, Cond.code yX3_throwNew cX3_throwNew 3 (some .long), Cond.methodLink RX3 125 yX2_wrap, Cond.instanceMethod yX2_wrap, Cond.selects RX2 yX2_wrap yX2_wrap, Cond.code yX2_wrap cX2_wrap 3 none, Cond.fieldLink RX2 15 "UnwindRig$Thrown" "numbers" "[I", Cond.code yX3_doThen cX3_doThen 3 (some .long)]
def wsX3_doLevel_r3 : List Cond := [Cond.code yX3_goDown cX3_goDown 4 (some .long), Cond.methodLink RX3 121 yX3_reachBottom, Cond.instanceMethod yX3_reachBottom, Cond.selects RX3 yX3_reachBottom yX3_reachBottom, Cond.code yX3_reachBottom cX3_reachBottom 3 (some .long), Cond.constantLong RX3 132 (7), Cond.methodLink RX3 134 yX3_throwFromWithin, Cond.instanceMethod yX3_throwFromWithin, Cond.selects RX3 yX3_throwFromWithin yX3_throwFromWithin, Cond.code yX3_throwFromWithin cX3_throwFromWithin 3 (some .long), Cond.methodLink RX3 63 yX3_doLevel, Cond.instanceMethod yX3_doLevel, Cond.selects RX3 yX3_doLevel yX3_doLevel]
def wsX3_doLevel : List Cond := .code yX3_doLevel cX3_doLevel 6 (some .long) :: ((wsX3_doLevel_r1 ++ (wsX3_doLevel_r2 ++ wsX3_doLevel_r3)) ++ wsX30 ++ wsX10 ++ wsX20 ++ wsX00 ++ (vx_atN 8).filter goodWord ++ (vx_atM "java/lang/ArrayIndexOutOfBoundsException" ["java/lang/IndexOutOfBoundsException", "java/lang/RuntimeException", "java/lang/Exception"]).filter goodWord)
def wsX3_doThen_r1 : List Cond := [Cond.fieldLink RX3 11 "UnwindRig" "levels" "[LUnwindRig$Level;", Cond.fieldLink RX3 18 "UnwindRig" "notes" "LUnwindRig$Notes;", Cond.fieldLink RX3 25 "UnwindRig" "thrown" "LUnwindRig$Thrown;", Cond.methodLink RX3 67 yX2_kind, Cond.instanceMethod yX2_kind, Cond.selects RX2 yX2_kind yX2_kind, Cond.initialized RX2, Cond.code yX2_kind cX2_kind 1 (some .int), Cond.fieldLink RX2 18 "UnwindRig$Thrown" "height" "I", Cond.fieldLink RX2 11 "UnwindRig$Thrown" "kinds" "[I", Cond.methodLink RX3 104 yX1_add, Cond.instanceMethod yX1_add, Cond.selects RX1 yX1_add yX1_add, Cond.initialized RX1, Cond.code yX1_add cX1_add 2 none, Cond.fieldLink RX1 15 "UnwindRig$Notes" "made" "I", Cond.fieldLink RX1 9 "UnwindRig$Notes" "row" "[I", Cond.methodLink RX3 60 yX2_drop, Cond.instanceMethod yX2_drop, Cond.selects RX2 yX2_drop yX2_drop, Cond.code yX2_drop cX2_drop 1 none, Cond.methodLink RX3 125 yX2_wrap, Cond.instanceMethod yX2_wrap, Cond.selects RX2 yX2_wrap yX2_wrap]
def wsX3_doThen_r2 : List Cond := [Cond.code yX2_wrap cX2_wrap 3 none, Cond.fieldLink RX2 15 "UnwindRig$Thrown" "numbers" "[I", Cond.methodLink RX3 129 yX3_throwNew, Cond.instanceMethod yX3_throwNew, Cond.selects RX3 yX3_throwNew yX3_throwNew, Cond.initialized RX3, Cond.code yX3_throwNew cX3_throwNew 3 (some .long), Cond.methodLink RX3 107 yX3_goDown, Cond.instanceMethod yX3_goDown, Cond.selects RX3 yX3_goDown yX3_goDown, Cond.code yX3_doLevel cX3_doLevel 6 (some .long), Cond.methodLink RX3 110 yX0_takesKind, Cond.instanceMethod yX0_takesKind, Cond.selects RX0 yX0_takesKind yX0_takesKind, Cond.initialized RX0, Cond.code yX0_takesKind cX0_takesKind 2 (some .boolean), Cond.fieldLink RX0 9 "UnwindRig$Level" "takes" "I", Cond.methodLink RX3 113 yX3_doThen, Cond.instanceMethod yX3_doThen, Cond.selects RX3 yX3_doThen yX3_doThen, Cond.methodLink RX3 117 yX3_doLast, Cond.instanceMethod yX3_doLast, Cond.selects RX3 yX3_doLast yX3_doLast, Cond.code yX3_doLast cX3_doLast 5 (some .long)]
def wsX3_doThen_r3 : List Cond := [Cond.code yX3_goDown cX3_goDown 4 (some .long), Cond.methodLink RX3 121 yX3_reachBottom, Cond.instanceMethod yX3_reachBottom, Cond.selects RX3 yX3_reachBottom yX3_reachBottom, Cond.code yX3_reachBottom cX3_reachBottom 3 (some .long), Cond.constantLong RX3 132 (7), Cond.methodLink RX3 134 yX3_throwFromWithin, Cond.instanceMethod yX3_throwFromWithin, Cond.selects RX3 yX3_throwFromWithin yX3_throwFromWithin, Cond.code yX3_throwFromWithin cX3_throwFromWithin 3 (some .long), Cond.methodLink RX3 63 yX3_doLevel, Cond.instanceMethod yX3_doLevel, Cond.selects RX3 yX3_doLevel yX3_doLevel]
def wsX3_doThen : List Cond := .code yX3_doThen cX3_doThen 3 (some .long) :: ((wsX3_doThen_r1 ++ (wsX3_doThen_r2 ++ wsX3_doThen_r3)) ++ wsX30 ++ wsX10 ++ wsX20 ++ wsX00 ++ (vx_atN 8).filter goodWord ++ (vx_atM "java/lang/ArrayIndexOutOfBoundsException" ["java/lang/IndexOutOfBoundsException", "java/lang/RuntimeException", "java/lang/Exception"]).filter goodWord)
def wsX3_goDown_r1 : List Cond := [Cond.fieldLink RX3 11 "UnwindRig" "levels" "[LUnwindRig$Level;", Cond.methodLink RX3 121 yX3_reachBottom, Cond.instanceMethod yX3_reachBottom, Cond.selects RX3 yX3_reachBottom yX3_reachBottom, Cond.initialized RX3, Cond.code yX3_reachBottom cX3_reachBottom 3 (some .long), Cond.constantLong RX3 132 (7), Cond.methodLink RX3 129 yX3_throwNew, Cond.instanceMethod yX3_throwNew, Cond.selects RX3 yX3_throwNew yX3_throwNew, Cond.code yX3_throwNew cX3_throwNew 3 (some .long), Cond.fieldLink RX3 25 "UnwindRig" "thrown" "LUnwindRig$Thrown;", Cond.methodLink RX3 60 yX2_drop, Cond.instanceMethod yX2_drop, Cond.selects RX2 yX2_drop yX2_drop, Cond.initialized RX2, Cond.code yX2_drop cX2_drop 1 none, Cond.fieldLink RX2 18 "UnwindRig$Thrown" "height" "I", Cond.methodLink RX3 125 yX2_wrap, Cond.instanceMethod yX2_wrap, Cond.selects RX2 yX2_wrap yX2_wrap, Cond.code yX2_wrap cX2_wrap 3 none, Cond.fieldLink RX2 11 "UnwindRig$Thrown" "kinds" "[I", Cond.fieldLink RX2 15 "UnwindRig$Thrown" "numbers" "[I"]
def wsX3_goDown_r2 : List Cond := [Cond.methodLink RX3 134 yX3_throwFromWithin, Cond.instanceMethod yX3_throwFromWithin, Cond.selects RX3 yX3_throwFromWithin yX3_throwFromWithin, Cond.code yX3_throwFromWithin cX3_throwFromWithin 3 (some .long), Cond.fieldLink RX3 18 "UnwindRig" "notes" "LUnwindRig$Notes;", Cond.methodLink RX3 104 yX1_add, Cond.instanceMethod yX1_add, Cond.selects RX1 yX1_add yX1_add, Cond.initialized RX1, Cond.code yX1_add cX1_add 2 none, Cond.fieldLink RX1 15 "UnwindRig$Notes" "made" "I", Cond.fieldLink RX1 9 "UnwindRig$Notes" "row" "[I", Cond.methodLink RX3 63 yX3_doLevel, Cond.instanceMethod yX3_doLevel, Cond.selects RX3 yX3_doLevel yX3_doLevel, Cond.code yX3_doLevel cX3_doLevel 6 (some .long), Cond.methodLink RX3 107 yX3_goDown, Cond.instanceMethod yX3_goDown, Cond.selects RX3 yX3_goDown yX3_goDown, Cond.methodLink RX3 67 yX2_kind, Cond.instanceMethod yX2_kind, Cond.selects RX2 yX2_kind yX2_kind, Cond.code yX2_kind cX2_kind 1 (some .int), Cond.methodLink RX3 110 yX0_takesKind]
def wsX3_goDown_r3 : List Cond := [Cond.instanceMethod yX0_takesKind, Cond.selects RX0 yX0_takesKind yX0_takesKind, Cond.initialized RX0, Cond.code yX0_takesKind cX0_takesKind 2 (some .boolean), Cond.fieldLink RX0 9 "UnwindRig$Level" "takes" "I", Cond.methodLink RX3 113 yX3_doThen, Cond.instanceMethod yX3_doThen, Cond.selects RX3 yX3_doThen yX3_doThen, Cond.methodLink RX3 117 yX3_doLast, Cond.instanceMethod yX3_doLast, Cond.selects RX3 yX3_doLast yX3_doLast, Cond.code yX3_doLast cX3_doLast 5 (some .long), Cond.code yX3_doThen cX3_doThen 3 (some .long)]
def wsX3_goDown : List Cond := .code yX3_goDown cX3_goDown 4 (some .long) :: ((wsX3_goDown_r1 ++ (wsX3_goDown_r2 ++ wsX3_goDown_r3)) ++ wsX30 ++ wsX10 ++ wsX20 ++ wsX00 ++ (vx_atN 8).filter goodWord ++ (vx_atM "java/lang/ArrayIndexOutOfBoundsException" ["java/lang/IndexOutOfBoundsException", "java/lang/RuntimeException", "java/lang/Exception"]).filter goodWord)
def wsX3_throwOut : List Cond := .code yX3_throwOut cX3_throwOut 1 none :: ([.classLink RX3 137 "java/lang/IllegalStateException", .initialized "java/lang/IllegalStateException", .classLink RX3 142 "java/lang/UnsupportedOperationException", .initialized "java/lang/UnsupportedOperationException", .classLink RX3 147 "java/lang/ArithmeticException", .initialized "java/lang/ArithmeticException", .classLink RX3 99 RJx5d777, .instantiable RJx5d777 8, .initialized RJx5d777, .classLink RX3 34 RJx00060, .instantiable RJx00060 6, .initialized RJx00060] ++ wsJx5d7770 ++ wsJx000600 ++ (vx_atS RX3 141 "java/lang/IllegalStateException" ["java/lang/RuntimeException", "java/lang/Exception"]).filter goodWord ++ (vx_atN 8).filter goodWord ++ (vx_atS RX3 146 "java/lang/UnsupportedOperationException" ["java/lang/RuntimeException", "java/lang/Exception"]).filter goodWord ++ (vx_atS RX3 151 "java/lang/ArithmeticException" ["java/lang/RuntimeException", "java/lang/Exception"]).filter goodWord)
def wsX3_run_r1 : List Cond := [Cond.classLink RX3 34 RJx00060, Cond.instantiable RJx00060 6, Cond.initialized RJx00060, Cond.fieldLink RX3 54 "UnwindRig" "runs" "I", Cond.fieldLink RX3 18 "UnwindRig" "notes" "LUnwindRig$Notes;", Cond.fieldLink RX3 25 "UnwindRig" "thrown" "LUnwindRig$Thrown;", Cond.methodLink RX3 30 yX3_isLevel, Cond.static yX3_isLevel, Cond.initialized RX3, Cond.code yX3_isLevel cX3_isLevel 1 (some .boolean), Cond.methodLink RX3 57 yX1_beginAnew, Cond.instanceMethod yX1_beginAnew, Cond.selects RX1 yX1_beginAnew yX1_beginAnew, Cond.initialized RX1, Cond.code yX1_beginAnew cX1_beginAnew 1 none, Cond.fieldLink RX1 15 "UnwindRig$Notes" "made" "I", Cond.methodLink RX3 60 yX2_drop, Cond.instanceMethod yX2_drop, Cond.selects RX2 yX2_drop yX2_drop, Cond.initialized RX2, Cond.code yX2_drop cX2_drop 1 none, Cond.fieldLink RX2 18 "UnwindRig$Thrown" "height" "I", Cond.methodLink RX3 63 yX3_doLevel, Cond.instanceMethod yX3_doLevel]
def wsX3_run_r2 : List Cond := [Cond.selects RX3 yX3_doLevel yX3_doLevel, Cond.code yX3_doLevel cX3_doLevel 6 (some .long), Cond.fieldLink RX3 11 "UnwindRig" "levels" "[LUnwindRig$Level;", Cond.methodLink RX3 104 yX1_add, Cond.instanceMethod yX1_add, Cond.selects RX1 yX1_add yX1_add, Cond.code yX1_add cX1_add 2 none, Cond.fieldLink RX1 9 "UnwindRig$Notes" "row" "[I", Cond.methodLink RX3 107 yX3_goDown, Cond.instanceMethod yX3_goDown, Cond.selects RX3 yX3_goDown yX3_goDown, Cond.methodLink RX3 67 yX2_kind, Cond.instanceMethod yX2_kind, Cond.selects RX2 yX2_kind yX2_kind, Cond.code yX2_kind cX2_kind 1 (some .int), Cond.fieldLink RX2 11 "UnwindRig$Thrown" "kinds" "[I", Cond.methodLink RX3 110 yX0_takesKind, Cond.instanceMethod yX0_takesKind, Cond.selects RX0 yX0_takesKind yX0_takesKind, Cond.initialized RX0, Cond.code yX0_takesKind cX0_takesKind 2 (some .boolean), Cond.fieldLink RX0 9 "UnwindRig$Level" "takes" "I", Cond.methodLink RX3 113 yX3_doThen, Cond.instanceMethod yX3_doThen]
def wsX3_run_r3 : List Cond := [Cond.selects RX3 yX3_doThen yX3_doThen, Cond.methodLink RX3 117 yX3_doLast, Cond.instanceMethod yX3_doLast, Cond.selects RX3 yX3_doLast yX3_doLast, Cond.code yX3_doLast cX3_doLast 5 (some .long), Cond.methodLink RX3 129 yX3_throwNew, Cond.instanceMethod yX3_throwNew, Cond.selects RX3 yX3_throwNew yX3_throwNew, Cond.code yX3_throwNew cX3_throwNew 3 (some .long), Cond.methodLink RX3 125 yX2_wrap, Cond.instanceMethod yX2_wrap, Cond.selects RX2 yX2_wrap yX2_wrap, Cond.code yX2_wrap cX2_wrap 3 none, Cond.fieldLink RX2 15 "UnwindRig$Thrown" "numbers" "[I", Cond.code yX3_doThen cX3_doThen 3 (some .long), Cond.code yX3_goDown cX3_goDown 4 (some .long), Cond.methodLink RX3 121 yX3_reachBottom, Cond.instanceMethod yX3_reachBottom, Cond.selects RX3 yX3_reachBottom yX3_reachBottom, Cond.code yX3_reachBottom cX3_reachBottom 3 (some .long), Cond.constantLong RX3 132 (7), Cond.methodLink RX3 134 yX3_throwFromWithin, Cond.instanceMethod yX3_throwFromWithin, Cond.selects RX3 yX3_throwFromWithin yX3_throwFromWithin]
def wsX3_run_r4 : List Cond := [Cond.code yX3_throwFromWithin cX3_throwFromWithin 3 (some .long), Cond.methodLink RX3 71 yX3_throwOut, Cond.static yX3_throwOut, Cond.code yX3_throwOut cX3_throwOut 1 none, Cond.classLink RX3 137 "java/lang/IllegalStateException", Cond.initialized "java/lang/IllegalStateException", Cond.classLink RX3 142 "java/lang/UnsupportedOperationException", Cond.initialized "java/lang/UnsupportedOperationException", Cond.classLink RX3 147 "java/lang/ArithmeticException", Cond.initialized "java/lang/ArithmeticException", Cond.classLink RX3 99 RJx5d777, Cond.instantiable RJx5d777 8, Cond.initialized RJx5d777]
def wsX3_run : List Cond := .code yX3_run cX3_run 6 (some .long) :: ((wsX3_run_r1 ++ (wsX3_run_r2 ++ (wsX3_run_r3 ++ wsX3_run_r4))) ++ wsJx000600 ++ wsX30 ++ wsX10 ++ wsX20 ++ wsX00 ++ wsJx5d7770 ++ (vx_atN 8).filter goodWord ++ (vx_atM "java/lang/ArrayIndexOutOfBoundsException" ["java/lang/IndexOutOfBoundsException", "java/lang/RuntimeException", "java/lang/Exception"]).filter goodWord ++ (vx_atS RX3 141 "java/lang/IllegalStateException" ["java/lang/RuntimeException", "java/lang/Exception"]).filter goodWord ++ (vx_atS RX3 146 "java/lang/UnsupportedOperationException" ["java/lang/RuntimeException", "java/lang/Exception"]).filter goodWord ++ (vx_atS RX3 151 "java/lang/ArithmeticException" ["java/lang/RuntimeException", "java/lang/Exception"]).filter goodWord)
def wsX3_note : List Cond := .code yX3_note cX3_note 2 (some .int) :: ([.fieldLink RX3 18 "UnwindRig" "notes" "LUnwindRig$Notes;", .classLink RX3 34 RJx00060, .instantiable RJx00060 6, .initialized RJx00060, .methodLink RX3 75 yX1_kept, .instanceMethod yX1_kept, .selects RX1 yX1_kept yX1_kept, .initialized RX1, .code yX1_kept cX1_kept 1 (some .int), .fieldLink RX1 15 "UnwindRig$Notes" "made" "I", .fieldLink RX1 9 "UnwindRig$Notes" "row" "[I", .methodLink RX1 19 Lib.Math.min.name, .static Lib.Math.min.name, .initialized "java/lang/Math", .code Lib.Math.min.name Lib.Math.min.code 2 (some .int)] ++ wsX30 ++ wsJx000600 ++ wsX10 ++ (vx_atN 8).filter goodWord ++ (vx_atM "java/lang/ArrayIndexOutOfBoundsException" ["java/lang/IndexOutOfBoundsException", "java/lang/RuntimeException", "java/lang/Exception"]).filter goodWord)
def wsX3_count_r1 : List Cond := [Cond.fieldLink RX3 18 "UnwindRig" "notes" "LUnwindRig$Notes;", Cond.fieldLink RX3 54 "UnwindRig" "runs" "I", Cond.fieldLink RX3 25 "UnwindRig" "thrown" "LUnwindRig$Thrown;", Cond.classLink RX3 99 RJx5d777, Cond.instantiable RJx5d777 8, Cond.initialized RJx5d777, Cond.methodLink RX3 67 yX2_kind, Cond.instanceMethod yX2_kind, Cond.selects RX2 yX2_kind yX2_kind, Cond.initialized RX2, Cond.code yX2_kind cX2_kind 1 (some .int), Cond.fieldLink RX2 18 "UnwindRig$Thrown" "height" "I", Cond.fieldLink RX2 11 "UnwindRig$Thrown" "kinds" "[I", Cond.methodLink RX3 87 yX2_number, Cond.instanceMethod yX2_number, Cond.selects RX2 yX2_number yX2_number, Cond.code yX2_number cX2_number 1 (some .int), Cond.fieldLink RX2 15 "UnwindRig$Thrown" "numbers" "[I", Cond.methodLink RX3 90 yX2_causes, Cond.instanceMethod yX2_causes, Cond.selects RX2 yX2_causes yX2_causes, Cond.code yX2_causes cX2_causes 1 (some .int), Cond.methodLink RX3 93 yX2_lastCauseKind, Cond.instanceMethod yX2_lastCauseKind]
def wsX3_count_r2 : List Cond := [Cond.selects RX2 yX2_lastCauseKind yX2_lastCauseKind, Cond.code yX2_lastCauseKind cX2_lastCauseKind 1 (some .int), Cond.methodLink RX2 22 yX2_causes, Cond.methodLink RX3 96 yX2_lastCauseNumber, Cond.instanceMethod yX2_lastCauseNumber, Cond.selects RX2 yX2_lastCauseNumber yX2_lastCauseNumber, Cond.code yX2_lastCauseNumber cX2_lastCauseNumber 1 (some .int)]
def wsX3_count : List Cond := .code yX3_count cX3_count 2 (some .int) :: ((wsX3_count_r1 ++ wsX3_count_r2) ++ wsX30 ++ wsX10 ++ wsJx5d7770 ++ wsX20 ++ (vx_atN 8).filter goodWord ++ (vx_atM "java/lang/ArrayIndexOutOfBoundsException" ["java/lang/IndexOutOfBoundsException", "java/lang/RuntimeException", "java/lang/Exception"]).filter goodWord)
def wsJx00060_init_a7421 : List Cond := .code yJx00060_init_a7421 cJx00060_init_a7421 2 none :: ([])
def wsJ9_min_7cf53 : List Cond := .code yJ9_min_7cf53 cJ9_min_7cf53 2 (some .int) :: ([])
def wsJx5d777_init_da8c8 : List Cond := .code yJx5d777_init_da8c8 cJx5d777_init_da8c8 1 none :: ([])
def wsJx5d777_init_a7421 : List Cond := .code yJx5d777_init_a7421 cJx5d777_init_a7421 2 none :: ([])
def wsJx5d777_fillInStackTrace_cddbd : List Cond := .code yJx5d777_fillInStackTrace_cddbd cJx5d777_fillInStackTrace_cddbd 1 (some (.object "java/lang/Throwable")) :: ([.fieldLink RJx5d777 10 "java/lang/NullPointerException" "extendedMessageState" "I", .fieldLink RJx5d777 20 "java/lang/NullPointerException" "extendedMessage" "Ljava/lang/String;"] ++ wsJx5d7770)
def wsL_set : List Cond := .codeWith yL_set cL_set 7 (some .int) [(0, 11, 12, 13)] :: ([.classLink RL 13 "java/lang/ArrayIndexOutOfBoundsException", .constant RL 15 (-1000000101), .methodLink RL 7 yX3_set, .instanceMethod yX3_set, .selects RX3 yX3_set yX3_set, .initialized RX3, .code yX3_set cX3_set 8 (some .int), .classLink RX3 34 RJx00060, .instantiable RJx00060 6, .initialized RJx00060, .fieldLink RX3 11 "UnwindRig" "levels" "[LUnwindRig$Level;", .methodLink RX3 30 yX3_isLevel, .static yX3_isLevel, .code yX3_isLevel cX3_isLevel 1 (some .boolean)] ++ wsJx000600 ++ wsX30 ++ wsX00 ++ (vx_atN 8).filter goodWord)
def wsL_run_r1 : List Cond := [Cond.classLink RL 20 "java/lang/ArithmeticException", Cond.classLink RL 24 "java/lang/IllegalStateException", Cond.classLink RL 28 "java/lang/UnsupportedOperationException", Cond.classLink RL 32 "java/lang/NullPointerException", Cond.classLink RL 13 "java/lang/ArrayIndexOutOfBoundsException", Cond.constantLong RL 22 (-9000000000101), Cond.constantLong RL 26 (-9000000000102), Cond.constantLong RL 30 (-9000000000103), Cond.constantLong RL 34 (-9000000000104), Cond.constantLong RL 36 (-9000000000105), Cond.methodLink RL 16 yX3_run, Cond.instanceMethod yX3_run, Cond.selects RX3 yX3_run yX3_run, Cond.initialized RX3, Cond.code yX3_run cX3_run 6 (some .long), Cond.classLink RX3 34 RJx00060, Cond.instantiable RJx00060 6, Cond.initialized RJx00060, Cond.fieldLink RX3 54 "UnwindRig" "runs" "I", Cond.fieldLink RX3 18 "UnwindRig" "notes" "LUnwindRig$Notes;", Cond.fieldLink RX3 25 "UnwindRig" "thrown" "LUnwindRig$Thrown;", Cond.methodLink RX3 30 yX3_isLevel, Cond.static yX3_isLevel, Cond.code yX3_isLevel cX3_isLevel 1 (some .boolean)]
def wsL_run_r2 : List Cond := [Cond.methodLink RX3 57 yX1_beginAnew, Cond.instanceMethod yX1_beginAnew, Cond.selects RX1 yX1_beginAnew yX1_beginAnew, Cond.initialized RX1, Cond.code yX1_beginAnew cX1_beginAnew 1 none, Cond.fieldLink RX1 15 "UnwindRig$Notes" "made" "I", Cond.methodLink RX3 60 yX2_drop, Cond.instanceMethod yX2_drop, Cond.selects RX2 yX2_drop yX2_drop, Cond.initialized RX2, Cond.code yX2_drop cX2_drop 1 none, Cond.fieldLink RX2 18 "UnwindRig$Thrown" "height" "I", Cond.methodLink RX3 63 yX3_doLevel, Cond.instanceMethod yX3_doLevel, Cond.selects RX3 yX3_doLevel yX3_doLevel, Cond.code yX3_doLevel cX3_doLevel 6 (some .long), Cond.fieldLink RX3 11 "UnwindRig" "levels" "[LUnwindRig$Level;", Cond.methodLink RX3 104 yX1_add, Cond.instanceMethod yX1_add, Cond.selects RX1 yX1_add yX1_add, Cond.code yX1_add cX1_add 2 none, Cond.fieldLink RX1 9 "UnwindRig$Notes" "row" "[I", Cond.methodLink RX3 107 yX3_goDown, Cond.instanceMethod yX3_goDown]
def wsL_run_r3 : List Cond := [Cond.selects RX3 yX3_goDown yX3_goDown, Cond.methodLink RX3 67 yX2_kind, Cond.instanceMethod yX2_kind, Cond.selects RX2 yX2_kind yX2_kind, Cond.code yX2_kind cX2_kind 1 (some .int), Cond.fieldLink RX2 11 "UnwindRig$Thrown" "kinds" "[I", Cond.methodLink RX3 110 yX0_takesKind, Cond.instanceMethod yX0_takesKind, Cond.selects RX0 yX0_takesKind yX0_takesKind, Cond.initialized RX0, Cond.code yX0_takesKind cX0_takesKind 2 (some .boolean), Cond.fieldLink RX0 9 "UnwindRig$Level" "takes" "I", Cond.methodLink RX3 113 yX3_doThen, Cond.instanceMethod yX3_doThen, Cond.selects RX3 yX3_doThen yX3_doThen, Cond.methodLink RX3 117 yX3_doLast, Cond.instanceMethod yX3_doLast, Cond.selects RX3 yX3_doLast yX3_doLast, Cond.code yX3_doLast cX3_doLast 5 (some .long), Cond.methodLink RX3 129 yX3_throwNew, Cond.instanceMethod yX3_throwNew, Cond.selects RX3 yX3_throwNew yX3_throwNew, Cond.code yX3_throwNew cX3_throwNew 3 (some .long), Cond.methodLink RX3 125 yX2_wrap]
def wsL_run_r4 : List Cond := [Cond.instanceMethod yX2_wrap, Cond.selects RX2 yX2_wrap yX2_wrap, Cond.code yX2_wrap cX2_wrap 3 none, Cond.fieldLink RX2 15 "UnwindRig$Thrown" "numbers" "[I", Cond.code yX3_doThen cX3_doThen 3 (some .long), Cond.code yX3_goDown cX3_goDown 4 (some .long), Cond.methodLink RX3 121 yX3_reachBottom, Cond.instanceMethod yX3_reachBottom, Cond.selects RX3 yX3_reachBottom yX3_reachBottom, Cond.code yX3_reachBottom cX3_reachBottom 3 (some .long), Cond.constantLong RX3 132 (7), Cond.methodLink RX3 134 yX3_throwFromWithin, Cond.instanceMethod yX3_throwFromWithin, Cond.selects RX3 yX3_throwFromWithin yX3_throwFromWithin, Cond.code yX3_throwFromWithin cX3_throwFromWithin 3 (some .long), Cond.methodLink RX3 71 yX3_throwOut, Cond.static yX3_throwOut, Cond.code yX3_throwOut cX3_throwOut 1 none, Cond.classLink RX3 137 "java/lang/IllegalStateException", Cond.initialized "java/lang/IllegalStateException", Cond.classLink RX3 142 "java/lang/UnsupportedOperationException", Cond.initialized "java/lang/UnsupportedOperationException", Cond.classLink RX3 147 "java/lang/ArithmeticException", Cond.initialized "java/lang/ArithmeticException"]
def wsL_run_r5 : List Cond := [Cond.classLink RX3 99 RJx5d777, Cond.instantiable RJx5d777 8, Cond.initialized RJx5d777]
def wsL_run : List Cond := .codeWith yL_run cL_run 5 (some .long) [(0, 7, 8, 20), (0, 7, 14, 24), (0, 7, 20, 28), (0, 7, 26, 32), (0, 7, 32, 13)] :: ((wsL_run_r1 ++ (wsL_run_r2 ++ (wsL_run_r3 ++ (wsL_run_r4 ++ wsL_run_r5)))) ++ wsJx000600 ++ wsX30 ++ wsX10 ++ wsX20 ++ wsX00 ++ wsJx5d7770 ++ (vx_atN 8).filter goodWord ++ (vx_atM "java/lang/ArrayIndexOutOfBoundsException" ["java/lang/IndexOutOfBoundsException", "java/lang/RuntimeException", "java/lang/Exception"]).filter goodWord ++ (vx_atS RX3 141 "java/lang/IllegalStateException" ["java/lang/RuntimeException", "java/lang/Exception"]).filter goodWord ++ (vx_atS RX3 146 "java/lang/UnsupportedOperationException" ["java/lang/RuntimeException", "java/lang/Exception"]).filter goodWord ++ (vx_atS RX3 151 "java/lang/ArithmeticException" ["java/lang/RuntimeException", "java/lang/Exception"]).filter goodWord)
def wsL_note : List Cond := .codeWith yL_note cL_note 3 (some .int) [(0, 5, 6, 13)] :: ([.classLink RL 13 "java/lang/ArrayIndexOutOfBoundsException", .constant RL 15 (-1000000101), .methodLink RL 38 yX3_note, .instanceMethod yX3_note, .selects RX3 yX3_note yX3_note, .initialized RX3, .code yX3_note cX3_note 2 (some .int), .fieldLink RX3 18 "UnwindRig" "notes" "LUnwindRig$Notes;", .classLink RX3 34 RJx00060, .instantiable RJx00060 6, .initialized RJx00060, .methodLink RX3 75 yX1_kept, .instanceMethod yX1_kept, .selects RX1 yX1_kept yX1_kept, .initialized RX1, .code yX1_kept cX1_kept 1 (some .int), .fieldLink RX1 15 "UnwindRig$Notes" "made" "I", .fieldLink RX1 9 "UnwindRig$Notes" "row" "[I", .methodLink RX1 19 Lib.Math.min.name, .static Lib.Math.min.name, .initialized "java/lang/Math", .code Lib.Math.min.name Lib.Math.min.code 2 (some .int)] ++ wsX30 ++ wsJx000600 ++ wsX10 ++ (vx_atN 8).filter goodWord ++ (vx_atM "java/lang/ArrayIndexOutOfBoundsException" ["java/lang/IndexOutOfBoundsException", "java/lang/RuntimeException", "java/lang/Exception"]).filter goodWord)
def wsL_count_r1 : List Cond := [Cond.classLink RL 32 "java/lang/NullPointerException", Cond.constant RL 15 (-1000000101), Cond.methodLink RL 42 yX3_count, Cond.instanceMethod yX3_count, Cond.selects RX3 yX3_count yX3_count, Cond.initialized RX3, Cond.code yX3_count cX3_count 2 (some .int), Cond.fieldLink RX3 18 "UnwindRig" "notes" "LUnwindRig$Notes;", Cond.fieldLink RX3 54 "UnwindRig" "runs" "I", Cond.fieldLink RX3 25 "UnwindRig" "thrown" "LUnwindRig$Thrown;", Cond.classLink RX3 99 RJx5d777, Cond.instantiable RJx5d777 8, Cond.initialized RJx5d777, Cond.methodLink RX3 67 yX2_kind, Cond.instanceMethod yX2_kind, Cond.selects RX2 yX2_kind yX2_kind, Cond.initialized RX2, Cond.code yX2_kind cX2_kind 1 (some .int), Cond.fieldLink RX2 18 "UnwindRig$Thrown" "height" "I", Cond.fieldLink RX2 11 "UnwindRig$Thrown" "kinds" "[I", Cond.methodLink RX3 87 yX2_number, Cond.instanceMethod yX2_number, Cond.selects RX2 yX2_number yX2_number, Cond.code yX2_number cX2_number 1 (some .int)]
def wsL_count_r2 : List Cond := [Cond.fieldLink RX2 15 "UnwindRig$Thrown" "numbers" "[I", Cond.methodLink RX3 90 yX2_causes, Cond.instanceMethod yX2_causes, Cond.selects RX2 yX2_causes yX2_causes, Cond.code yX2_causes cX2_causes 1 (some .int), Cond.methodLink RX3 93 yX2_lastCauseKind, Cond.instanceMethod yX2_lastCauseKind, Cond.selects RX2 yX2_lastCauseKind yX2_lastCauseKind, Cond.code yX2_lastCauseKind cX2_lastCauseKind 1 (some .int), Cond.methodLink RX2 22 yX2_causes, Cond.methodLink RX3 96 yX2_lastCauseNumber, Cond.instanceMethod yX2_lastCauseNumber, Cond.selects RX2 yX2_lastCauseNumber yX2_lastCauseNumber, Cond.code yX2_lastCauseNumber cX2_lastCauseNumber 1 (some .int)]
def wsL_count : List Cond := .codeWith yL_count cL_count 3 (some .int) [(0, 5, 6, 32)] :: ((wsL_count_r1 ++ wsL_count_r2) ++ wsX30 ++ wsX10 ++ wsJx5d7770 ++ wsX20 ++ (vx_atN 8).filter goodWord ++ (vx_atM "java/lang/ArrayIndexOutOfBoundsException" ["java/lang/IndexOutOfBoundsException", "java/lang/RuntimeException", "java/lang/Exception"]).filter goodWord)
def wsL_law0_r1 : List Cond := [Cond.classLink RL 8 RX3, Cond.instantiable RX3 4, Cond.initialized RX3, Cond.arrayClass .int, Cond.constant RL 15 (-1000000101), Cond.methodLink RL 45 yX3_init, Cond.instanceMethod yX3_init, Cond.code yX3_init cX3_init 2 none, Cond.methodLink RX3 1 objectInit, Cond.instanceMethod objectInit, Cond.code objectInit ⟨#[0xb1]⟩ 1 none, Cond.classLink RX3 9 RX0, Cond.fieldLink RX3 11 "UnwindRig" "levels" "[LUnwindRig$Level;", Cond.classLink RX3 15 RX1, Cond.instantiable RX1 2, Cond.initialized RX1, Cond.fieldLink RX3 18 "UnwindRig" "notes" "LUnwindRig$Notes;", Cond.classLink RX3 22 RX2, Cond.instantiable RX2 3, Cond.initialized RX2, Cond.fieldLink RX3 25 "UnwindRig" "thrown" "LUnwindRig$Thrown;", Cond.instantiable RX0 4, Cond.initialized RX0, Cond.instanceMethod yX1_init]
def wsL_law0_r2 : List Cond := [Cond.code yX1_init cX1_init 1 none, Cond.methodLink RX1 3 objectInit, Cond.fieldLink RX1 9 "UnwindRig$Notes" "row" "[I", Cond.instanceMethod yX2_init, Cond.code yX2_init cX2_init 1 none, Cond.methodLink RX2 3 objectInit, Cond.fieldLink RX2 11 "UnwindRig$Thrown" "kinds" "[I", Cond.fieldLink RX2 15 "UnwindRig$Thrown" "numbers" "[I", Cond.instanceMethod yX0_init, Cond.code yX0_init cX0_init 1 none, Cond.methodLink RX0 3 objectInit, Cond.methodLink RL 46 yL_set, Cond.static yL_set, Cond.initialized RL, Cond.codeWith yL_set cL_set 7 (some .int) [(0, 11, 12, 13)], Cond.classLink RL 13 "java/lang/ArrayIndexOutOfBoundsException", Cond.methodLink RL 7 yX3_set, Cond.instanceMethod yX3_set, Cond.selects RX3 yX3_set yX3_set, Cond.code yX3_set cX3_set 8 (some .int), Cond.classLink RX3 34 RJx00060, Cond.instantiable RJx00060 6, Cond.initialized RJx00060, Cond.methodLink RX3 30 yX3_isLevel]
def wsL_law0_r3 : List Cond := [Cond.static yX3_isLevel, Cond.code yX3_isLevel cX3_isLevel 1 (some .boolean), Cond.methodLink RL 51 yL_run, Cond.static yL_run, Cond.codeWith yL_run cL_run 5 (some .long) [(0, 7, 8, 20), (0, 7, 14, 24), (0, 7, 20, 28), (0, 7, 26, 32), (0, 7, 32, 13)], Cond.classLink RL 20 "java/lang/ArithmeticException", Cond.classLink RL 24 "java/lang/IllegalStateException", Cond.classLink RL 28 "java/lang/UnsupportedOperationException", Cond.classLink RL 32 "java/lang/NullPointerException", Cond.constantLong RL 22 (-9000000000101), Cond.constantLong RL 26 (-9000000000102), Cond.constantLong RL 30 (-9000000000103), Cond.constantLong RL 34 (-9000000000104), Cond.constantLong RL 36 (-9000000000105), Cond.methodLink RL 16 yX3_run, Cond.instanceMethod yX3_run, Cond.selects RX3 yX3_run yX3_run, Cond.code yX3_run cX3_run 6 (some .long), Cond.fieldLink RX3 54 "UnwindRig" "runs" "I", Cond.methodLink RX3 57 yX1_beginAnew, Cond.instanceMethod yX1_beginAnew, Cond.selects RX1 yX1_beginAnew yX1_beginAnew, Cond.code yX1_beginAnew cX1_beginAnew 1 none, Cond.fieldLink RX1 15 "UnwindRig$Notes" "made" "I"]
def wsL_law0_r4 : List Cond := [Cond.methodLink RX3 60 yX2_drop, Cond.instanceMethod yX2_drop, Cond.selects RX2 yX2_drop yX2_drop, Cond.code yX2_drop cX2_drop 1 none, Cond.fieldLink RX2 18 "UnwindRig$Thrown" "height" "I", Cond.methodLink RX3 63 yX3_doLevel, Cond.instanceMethod yX3_doLevel, Cond.selects RX3 yX3_doLevel yX3_doLevel, Cond.code yX3_doLevel cX3_doLevel 6 (some .long), Cond.methodLink RX3 104 yX1_add, Cond.instanceMethod yX1_add, Cond.selects RX1 yX1_add yX1_add, Cond.code yX1_add cX1_add 2 none, Cond.methodLink RX3 107 yX3_goDown, Cond.instanceMethod yX3_goDown, Cond.selects RX3 yX3_goDown yX3_goDown, Cond.methodLink RX3 67 yX2_kind, Cond.instanceMethod yX2_kind, Cond.selects RX2 yX2_kind yX2_kind, Cond.code yX2_kind cX2_kind 1 (some .int), Cond.methodLink RX3 110 yX0_takesKind, Cond.instanceMethod yX0_takesKind, Cond.selects RX0 yX0_takesKind yX0_takesKind, Cond.code yX0_takesKind cX0_takesKind 2 (some .boolean)]
def wsL_law0_r5 : List Cond := [Cond.fieldLink RX0 9 "UnwindRig$Level" "takes" "I", Cond.methodLink RX3 113 yX3_doThen, Cond.instanceMethod yX3_doThen, Cond.selects RX3 yX3_doThen yX3_doThen, Cond.methodLink RX3 117 yX3_doLast, Cond.instanceMethod yX3_doLast, Cond.selects RX3 yX3_doLast yX3_doLast, Cond.code yX3_doLast cX3_doLast 5 (some .long), Cond.methodLink RX3 129 yX3_throwNew, Cond.instanceMethod yX3_throwNew, Cond.selects RX3 yX3_throwNew yX3_throwNew, Cond.code yX3_throwNew cX3_throwNew 3 (some .long), Cond.methodLink RX3 125 yX2_wrap, Cond.instanceMethod yX2_wrap, Cond.selects RX2 yX2_wrap yX2_wrap, Cond.code yX2_wrap cX2_wrap 3 none, Cond.code yX3_doThen cX3_doThen 3 (some .long), Cond.code yX3_goDown cX3_goDown 4 (some .long), Cond.methodLink RX3 121 yX3_reachBottom, Cond.instanceMethod yX3_reachBottom, Cond.selects RX3 yX3_reachBottom yX3_reachBottom, Cond.code yX3_reachBottom cX3_reachBottom 3 (some .long), Cond.constantLong RX3 132 (7), Cond.methodLink RX3 134 yX3_throwFromWithin]
def wsL_law0_r6 : List Cond := [Cond.instanceMethod yX3_throwFromWithin, Cond.selects RX3 yX3_throwFromWithin yX3_throwFromWithin, Cond.code yX3_throwFromWithin cX3_throwFromWithin 3 (some .long), Cond.methodLink RX3 71 yX3_throwOut, Cond.static yX3_throwOut, Cond.code yX3_throwOut cX3_throwOut 1 none, Cond.classLink RX3 137 "java/lang/IllegalStateException", Cond.initialized "java/lang/IllegalStateException", Cond.classLink RX3 142 "java/lang/UnsupportedOperationException", Cond.initialized "java/lang/UnsupportedOperationException", Cond.classLink RX3 147 "java/lang/ArithmeticException", Cond.initialized "java/lang/ArithmeticException", Cond.classLink RX3 99 RJx5d777, Cond.instantiable RJx5d777 8, Cond.initialized RJx5d777, Cond.methodLink RL 54 yL_count, Cond.static yL_count, Cond.codeWith yL_count cL_count 3 (some .int) [(0, 5, 6, 32)], Cond.methodLink RL 42 yX3_count, Cond.instanceMethod yX3_count, Cond.selects RX3 yX3_count yX3_count, Cond.code yX3_count cX3_count 2 (some .int), Cond.methodLink RX3 87 yX2_number, Cond.instanceMethod yX2_number]
def wsL_law0_r7 : List Cond := [Cond.selects RX2 yX2_number yX2_number, Cond.code yX2_number cX2_number 1 (some .int), Cond.methodLink RX3 90 yX2_causes, Cond.instanceMethod yX2_causes, Cond.selects RX2 yX2_causes yX2_causes, Cond.code yX2_causes cX2_causes 1 (some .int), Cond.methodLink RX3 93 yX2_lastCauseKind, Cond.instanceMethod yX2_lastCauseKind, Cond.selects RX2 yX2_lastCauseKind yX2_lastCauseKind, Cond.code yX2_lastCauseKind cX2_lastCauseKind 1 (some .int), Cond.methodLink RX2 22 yX2_causes, Cond.methodLink RX3 96 yX2_lastCauseNumber, Cond.instanceMethod yX2_lastCauseNumber, Cond.selects RX2 yX2_lastCauseNumber yX2_lastCauseNumber, Cond.code yX2_lastCauseNumber cX2_lastCauseNumber 1 (some .int), Cond.methodLink RL 57 yL_note, Cond.static yL_note, Cond.codeWith yL_note cL_note 3 (some .int) [(0, 5, 6, 13)], Cond.methodLink RL 38 yX3_note, Cond.instanceMethod yX3_note, Cond.selects RX3 yX3_note yX3_note, Cond.code yX3_note cX3_note 2 (some .int), Cond.methodLink RX3 75 yX1_kept, Cond.instanceMethod yX1_kept]
def wsL_law0_r8 : List Cond := [Cond.selects RX1 yX1_kept yX1_kept, Cond.code yX1_kept cX1_kept 1 (some .int), Cond.methodLink RX1 19 Lib.Math.min.name, Cond.static Lib.Math.min.name, Cond.initialized "java/lang/Math", Cond.code Lib.Math.min.name Lib.Math.min.code 2 (some .int)]
def wsL_law0 : List Cond := (wsL_law0_r1 ++ (wsL_law0_r2 ++ (wsL_law0_r3 ++ (wsL_law0_r4 ++ (wsL_law0_r5 ++ (wsL_law0_r6 ++ (wsL_law0_r7 ++ wsL_law0_r8))))))) ++ wsX30 ++ wsX10 ++ wsX20 ++ wsX00 ++ wsJx000600 ++ wsJx5d7770 ++ ([] : List Cond)
def wsL_law : List Cond := wsL_law0 ++ (vx_atN 8).filter goodWord ++ (vx_atM "java/lang/ArrayIndexOutOfBoundsException" ["java/lang/IndexOutOfBoundsException", "java/lang/RuntimeException", "java/lang/Exception"]).filter goodWord ++ (vx_atS RX3 141 "java/lang/IllegalStateException" ["java/lang/RuntimeException", "java/lang/Exception"]).filter goodWord ++ (vx_atS RX3 146 "java/lang/UnsupportedOperationException" ["java/lang/RuntimeException", "java/lang/Exception"]).filter goodWord ++ (vx_atS RX3 151 "java/lang/ArithmeticException" ["java/lang/RuntimeException", "java/lang/Exception"]).filter goodWord
set_option maxRecDepth 20000 in
theorem wsL_law_in0 : ∀ w ∈ wsL_law0, w ∈ lw_tbl := fun w h => (goodIn_p wsL_law0 [29, 32, 39, 55, 70, 196, 199, 251, 255, 259, 263, 267, 292, 296, 304, 279, 283, 300, 271, 275, 288, 307, 376, 380, 384, 388, 393, 361, 365, 368] (by decide +kernel) (by decide +kernel) w h).1
theorem wsL_law_x0 : ∀ w ∈ (vx_atN 8).filter goodWord, w ∈ lw_tbl := by decide +kernel
theorem wsL_law_x1 : ∀ w ∈ (vx_atM "java/lang/ArrayIndexOutOfBoundsException" ["java/lang/IndexOutOfBoundsException", "java/lang/RuntimeException", "java/lang/Exception"]).filter goodWord, w ∈ lw_tbl := by decide +kernel
theorem wsL_law_x2 : ∀ w ∈ (vx_atS RX3 141 "java/lang/IllegalStateException" ["java/lang/RuntimeException", "java/lang/Exception"]).filter goodWord, w ∈ lw_tbl := by decide +kernel
theorem wsL_law_x3 : ∀ w ∈ (vx_atS RX3 146 "java/lang/UnsupportedOperationException" ["java/lang/RuntimeException", "java/lang/Exception"]).filter goodWord, w ∈ lw_tbl := by decide +kernel
theorem wsL_law_x4 : ∀ w ∈ (vx_atS RX3 151 "java/lang/ArithmeticException" ["java/lang/RuntimeException", "java/lang/Exception"]).filter goodWord, w ∈ lw_tbl := by decide +kernel
theorem wsL_law_in : ∀ w ∈ wsL_law, w ∈ lw_tbl := fun w h => (List.mem_append.mp h).elim (fun h => (List.mem_append.mp h).elim (fun h => (List.mem_append.mp h).elim (fun h => (List.mem_append.mp h).elim (fun h => (List.mem_append.mp h).elim (fun h => wsL_law_in0 w h) (fun h => wsL_law_x0 w h)) (fun h => wsL_law_x1 w h)) (fun h => wsL_law_x2 w h)) (fun h => wsL_law_x3 w h)) (fun h => wsL_law_x4 w h)
theorem inlX0 : ∀ w ∈ wsX00, w ∈ wsL_law := fun _ h => List.mem_append_left _ (List.mem_append_left _ (List.mem_append_left _ (List.mem_append_left _ (List.mem_append_left _ (List.mem_append_left _ (List.mem_append_left _ (List.mem_append_left _ (List.mem_append_right _ h))))))))
theorem inX0 : ∀ w ∈ wsX00, w ∈ lw_tbl := fun w h => wsL_law_in w (inlX0 w h)
theorem inlX1 : ∀ w ∈ wsX10, w ∈ wsL_law := fun _ h => List.mem_append_left _ (List.mem_append_left _ (List.mem_append_left _ (List.mem_append_left _ (List.mem_append_left _ (List.mem_append_left _ (List.mem_append_left _ (List.mem_append_left _ (List.mem_append_left _ (List.mem_append_left _ (List.mem_append_right _ h))))))))))
theorem inX1 : ∀ w ∈ wsX10, w ∈ lw_tbl := fun w h => wsL_law_in w (inlX1 w h)
theorem inlX2 : ∀ w ∈ wsX20, w ∈ wsL_law := fun _ h => List.mem_append_left _ (List.mem_append_left _ (List.mem_append_left _ (List.mem_append_left _ (List.mem_append_left _ (List.mem_append_left _ (List.mem_append_left _ (List.mem_append_left _ (List.mem_append_left _ (List.mem_append_right _ h)))))))))
theorem inX2 : ∀ w ∈ wsX20, w ∈ lw_tbl := fun w h => wsL_law_in w (inlX2 w h)
theorem inlX3 : ∀ w ∈ wsX30, w ∈ wsL_law := fun _ h => List.mem_append_left _ (List.mem_append_left _ (List.mem_append_left _ (List.mem_append_left _ (List.mem_append_left _ (List.mem_append_left _ (List.mem_append_left _ (List.mem_append_left _ (List.mem_append_left _ (List.mem_append_left _ (List.mem_append_left _ (List.mem_append_right _ h)))))))))))
theorem inX3 : ∀ w ∈ wsX30, w ∈ lw_tbl := fun w h => wsL_law_in w (inlX3 w h)
theorem inX4 : ∀ w ∈ wsX40, w ∈ lw_tbl := by decide +kernel
theorem inlJx00060 : ∀ w ∈ wsJx000600, w ∈ wsL_law := fun _ h => List.mem_append_left _ (List.mem_append_left _ (List.mem_append_left _ (List.mem_append_left _ (List.mem_append_left _ (List.mem_append_left _ (List.mem_append_left _ (List.mem_append_right _ h)))))))
theorem inJx00060 : ∀ w ∈ wsJx000600, w ∈ lw_tbl := fun w h => wsL_law_in w (inlJx00060 w h)
theorem inJ9 : ∀ w ∈ wsJ90, w ∈ lw_tbl := by decide +kernel
theorem inlJx5d777 : ∀ w ∈ wsJx5d7770, w ∈ wsL_law := fun _ h => List.mem_append_left _ (List.mem_append_left _ (List.mem_append_left _ (List.mem_append_left _ (List.mem_append_left _ (List.mem_append_left _ (List.mem_append_right _ h))))))
theorem inJx5d777 : ∀ w ∈ wsJx5d7770, w ∈ lw_tbl := fun w h => wsL_law_in w (inlJx5d777 w h)
theorem inJ0 : ∀ w ∈ wsJ00, w ∈ lw_tbl := by decide +kernel
end
section
theorem dX0_init_0 : decode cX0_init 0 = .ok (.aload_n 0, 1) := by decide +kernel
theorem dX0_init_1 : decode cX0_init 1 = .ok (.invokespecial 3, 3) := by decide +kernel
theorem dX0_init_4 : decode cX0_init 4 = .ok (.return_, 1) := by decide +kernel
theorem dX0_takesKind_0 : decode cX0_takesKind 0 = .ok (.iload_n 1, 1) := by decide +kernel
theorem dX0_takesKind_1 : decode cX0_takesKind 1 = .ok (.ifCond .eq 20, 3) := by decide +kernel
theorem dX0_takesKind_4 : decode cX0_takesKind 4 = .ok (.aload_n 0, 1) := by decide +kernel
theorem dX0_takesKind_5 : decode cX0_takesKind 5 = .ok (.getfield 9, 3) := by decide +kernel
theorem dX0_takesKind_8 : decode cX0_takesKind 8 = .ok (.iconst 1, 1) := by decide +kernel
theorem dX0_takesKind_9 : decode cX0_takesKind 9 = .ok (.iload_n 1, 1) := by decide +kernel
theorem dX0_takesKind_10 : decode cX0_takesKind 10 = .ok (.iconst 1, 1) := by decide +kernel
theorem dX0_takesKind_11 : decode cX0_takesKind 11 = .ok (.isub, 1) := by decide +kernel
theorem dX0_takesKind_12 : decode cX0_takesKind 12 = .ok (.ishl, 1) := by decide +kernel
theorem dX0_takesKind_13 : decode cX0_takesKind 13 = .ok (.iand, 1) := by decide +kernel
theorem dX0_takesKind_14 : decode cX0_takesKind 14 = .ok (.ifCond .eq 7, 3) := by decide +kernel
theorem dX0_takesKind_17 : decode cX0_takesKind 17 = .ok (.iconst 1, 1) := by decide +kernel
theorem dX0_takesKind_18 : decode cX0_takesKind 18 = .ok (.goto 4, 3) := by decide +kernel
theorem dX0_takesKind_21 : decode cX0_takesKind 21 = .ok (.iconst 0, 1) := by decide +kernel
theorem dX0_takesKind_22 : decode cX0_takesKind 22 = .ok (.ireturn, 1) := by decide +kernel
theorem dX1_init_0 : decode cX1_init 0 = .ok (.aload_n 0, 1) := by decide +kernel
theorem dX1_init_1 : decode cX1_init 1 = .ok (.invokespecial 3, 3) := by decide +kernel
theorem dX1_init_4 : decode cX1_init 4 = .ok (.aload_n 0, 1) := by decide +kernel
theorem dX1_init_5 : decode cX1_init 5 = .ok (.bipush 64, 2) := by decide +kernel
theorem dX1_init_7 : decode cX1_init 7 = .ok (.newarray .int, 2) := by decide +kernel
theorem dX1_init_9 : decode cX1_init 9 = .ok (.putfield 9, 3) := by decide +kernel
theorem dX1_init_12 : decode cX1_init 12 = .ok (.return_, 1) := by decide +kernel
theorem dX1_beginAnew_0 : decode cX1_beginAnew 0 = .ok (.aload_n 0, 1) := by decide +kernel
theorem dX1_beginAnew_1 : decode cX1_beginAnew 1 = .ok (.iconst 0, 1) := by decide +kernel
theorem dX1_beginAnew_2 : decode cX1_beginAnew 2 = .ok (.putfield 15, 3) := by decide +kernel
theorem dX1_beginAnew_5 : decode cX1_beginAnew 5 = .ok (.return_, 1) := by decide +kernel
theorem dX1_add_0 : decode cX1_add 0 = .ok (.aload_n 0, 1) := by decide +kernel
theorem dX1_add_1 : decode cX1_add 1 = .ok (.getfield 15, 3) := by decide +kernel
theorem dX1_add_4 : decode cX1_add 4 = .ok (.aload_n 0, 1) := by decide +kernel
theorem dX1_add_5 : decode cX1_add 5 = .ok (.getfield 9, 3) := by decide +kernel
theorem dX1_add_8 : decode cX1_add 8 = .ok (.arraylength, 1) := by decide +kernel
theorem dX1_add_9 : decode cX1_add 9 = .ok (.if_icmp .ge 13, 3) := by decide +kernel
theorem dX1_add_12 : decode cX1_add 12 = .ok (.aload_n 0, 1) := by decide +kernel
theorem dX1_add_13 : decode cX1_add 13 = .ok (.getfield 9, 3) := by decide +kernel
theorem dX1_add_16 : decode cX1_add 16 = .ok (.aload_n 0, 1) := by decide +kernel
theorem dX1_add_17 : decode cX1_add 17 = .ok (.getfield 15, 3) := by decide +kernel
theorem dX1_add_20 : decode cX1_add 20 = .ok (.iload_n 1, 1) := by decide +kernel
theorem dX1_add_21 : decode cX1_add 21 = .ok (.iastore, 1) := by decide +kernel
theorem dX1_add_22 : decode cX1_add 22 = .ok (.aload_n 0, 1) := by decide +kernel
theorem dX1_add_23 : decode cX1_add 23 = .ok (.dup, 1) := by decide +kernel
theorem dX1_add_24 : decode cX1_add 24 = .ok (.getfield 15, 3) := by decide +kernel
theorem dX1_add_27 : decode cX1_add 27 = .ok (.iconst 1, 1) := by decide +kernel
theorem dX1_add_28 : decode cX1_add 28 = .ok (.iadd, 1) := by decide +kernel
theorem dX1_add_29 : decode cX1_add 29 = .ok (.putfield 15, 3) := by decide +kernel
theorem dX1_add_32 : decode cX1_add 32 = .ok (.return_, 1) := by decide +kernel
theorem dX1_kept_0 : decode cX1_kept 0 = .ok (.aload_n 0, 1) := by decide +kernel
theorem dX1_kept_1 : decode cX1_kept 1 = .ok (.getfield 15, 3) := by decide +kernel
theorem dX1_kept_4 : decode cX1_kept 4 = .ok (.aload_n 0, 1) := by decide +kernel
theorem dX1_kept_5 : decode cX1_kept 5 = .ok (.getfield 9, 3) := by decide +kernel
theorem dX1_kept_8 : decode cX1_kept 8 = .ok (.arraylength, 1) := by decide +kernel
theorem dX1_kept_9 : decode cX1_kept 9 = .ok (.invokestatic 19, 3) := by decide +kernel
theorem dX1_kept_12 : decode cX1_kept 12 = .ok (.ireturn, 1) := by decide +kernel
theorem dX2_init_0 : decode cX2_init 0 = .ok (.aload_n 0, 1) := by decide +kernel
theorem dX2_init_1 : decode cX2_init 1 = .ok (.invokespecial 3, 3) := by decide +kernel
theorem dX2_init_4 : decode cX2_init 4 = .ok (.aload_n 0, 1) := by decide +kernel
theorem dX2_init_5 : decode cX2_init 5 = .ok (.bipush 7, 2) := by decide +kernel
theorem dX2_init_7 : decode cX2_init 7 = .ok (.newarray .int, 2) := by decide +kernel
theorem dX2_init_9 : decode cX2_init 9 = .ok (.putfield 11, 3) := by decide +kernel
theorem dX2_init_12 : decode cX2_init 12 = .ok (.aload_n 0, 1) := by decide +kernel
theorem dX2_init_13 : decode cX2_init 13 = .ok (.bipush 7, 2) := by decide +kernel
theorem dX2_init_15 : decode cX2_init 15 = .ok (.newarray .int, 2) := by decide +kernel
theorem dX2_init_17 : decode cX2_init 17 = .ok (.putfield 15, 3) := by decide +kernel
theorem dX2_init_20 : decode cX2_init 20 = .ok (.return_, 1) := by decide +kernel
theorem dX2_drop_0 : decode cX2_drop 0 = .ok (.aload_n 0, 1) := by decide +kernel
theorem dX2_drop_1 : decode cX2_drop 1 = .ok (.iconst 0, 1) := by decide +kernel
theorem dX2_drop_2 : decode cX2_drop 2 = .ok (.putfield 18, 3) := by decide +kernel
theorem dX2_drop_5 : decode cX2_drop 5 = .ok (.return_, 1) := by decide +kernel
theorem dX2_wrap_0 : decode cX2_wrap 0 = .ok (.aload_n 0, 1) := by decide +kernel
theorem dX2_wrap_1 : decode cX2_wrap 1 = .ok (.getfield 18, 3) := by decide +kernel
theorem dX2_wrap_4 : decode cX2_wrap 4 = .ok (.bipush 7, 2) := by decide +kernel
theorem dX2_wrap_6 : decode cX2_wrap 6 = .ok (.if_icmp .ge 33, 3) := by decide +kernel
theorem dX2_wrap_9 : decode cX2_wrap 9 = .ok (.aload_n 0, 1) := by decide +kernel
theorem dX2_wrap_10 : decode cX2_wrap 10 = .ok (.getfield 11, 3) := by decide +kernel
theorem dX2_wrap_13 : decode cX2_wrap 13 = .ok (.aload_n 0, 1) := by decide +kernel
theorem dX2_wrap_14 : decode cX2_wrap 14 = .ok (.getfield 18, 3) := by decide +kernel
theorem dX2_wrap_17 : decode cX2_wrap 17 = .ok (.iload_n 1, 1) := by decide +kernel
theorem dX2_wrap_18 : decode cX2_wrap 18 = .ok (.iastore, 1) := by decide +kernel
theorem dX2_wrap_19 : decode cX2_wrap 19 = .ok (.aload_n 0, 1) := by decide +kernel
theorem dX2_wrap_20 : decode cX2_wrap 20 = .ok (.getfield 15, 3) := by decide +kernel
theorem dX2_wrap_23 : decode cX2_wrap 23 = .ok (.aload_n 0, 1) := by decide +kernel
theorem dX2_wrap_24 : decode cX2_wrap 24 = .ok (.getfield 18, 3) := by decide +kernel
theorem dX2_wrap_27 : decode cX2_wrap 27 = .ok (.iload_n 2, 1) := by decide +kernel
theorem dX2_wrap_28 : decode cX2_wrap 28 = .ok (.iastore, 1) := by decide +kernel
theorem dX2_wrap_29 : decode cX2_wrap 29 = .ok (.aload_n 0, 1) := by decide +kernel
theorem dX2_wrap_30 : decode cX2_wrap 30 = .ok (.dup, 1) := by decide +kernel
theorem dX2_wrap_31 : decode cX2_wrap 31 = .ok (.getfield 18, 3) := by decide +kernel
theorem dX2_wrap_34 : decode cX2_wrap 34 = .ok (.iconst 1, 1) := by decide +kernel
theorem dX2_wrap_35 : decode cX2_wrap 35 = .ok (.iadd, 1) := by decide +kernel
theorem dX2_wrap_36 : decode cX2_wrap 36 = .ok (.putfield 18, 3) := by decide +kernel
theorem dX2_wrap_39 : decode cX2_wrap 39 = .ok (.return_, 1) := by decide +kernel
theorem dX2_kind_0 : decode cX2_kind 0 = .ok (.aload_n 0, 1) := by decide +kernel
theorem dX2_kind_1 : decode cX2_kind 1 = .ok (.getfield 18, 3) := by decide +kernel
theorem dX2_kind_4 : decode cX2_kind 4 = .ok (.ifCond .le 17, 3) := by decide +kernel
theorem dX2_kind_7 : decode cX2_kind 7 = .ok (.aload_n 0, 1) := by decide +kernel
theorem dX2_kind_8 : decode cX2_kind 8 = .ok (.getfield 11, 3) := by decide +kernel
theorem dX2_kind_11 : decode cX2_kind 11 = .ok (.aload_n 0, 1) := by decide +kernel
theorem dX2_kind_12 : decode cX2_kind 12 = .ok (.getfield 18, 3) := by decide +kernel
theorem dX2_kind_15 : decode cX2_kind 15 = .ok (.iconst 1, 1) := by decide +kernel
theorem dX2_kind_16 : decode cX2_kind 16 = .ok (.isub, 1) := by decide +kernel
theorem dX2_kind_17 : decode cX2_kind 17 = .ok (.iaload, 1) := by decide +kernel
theorem dX2_kind_18 : decode cX2_kind 18 = .ok (.goto 4, 3) := by decide +kernel
theorem dX2_kind_21 : decode cX2_kind 21 = .ok (.iconst 0, 1) := by decide +kernel
theorem dX2_kind_22 : decode cX2_kind 22 = .ok (.ireturn, 1) := by decide +kernel
theorem dX2_number_0 : decode cX2_number 0 = .ok (.aload_n 0, 1) := by decide +kernel
theorem dX2_number_1 : decode cX2_number 1 = .ok (.getfield 18, 3) := by decide +kernel
theorem dX2_number_4 : decode cX2_number 4 = .ok (.ifCond .le 17, 3) := by decide +kernel
theorem dX2_number_7 : decode cX2_number 7 = .ok (.aload_n 0, 1) := by decide +kernel
theorem dX2_number_8 : decode cX2_number 8 = .ok (.getfield 15, 3) := by decide +kernel
theorem dX2_number_11 : decode cX2_number 11 = .ok (.aload_n 0, 1) := by decide +kernel
theorem dX2_number_12 : decode cX2_number 12 = .ok (.getfield 18, 3) := by decide +kernel
theorem dX2_number_15 : decode cX2_number 15 = .ok (.iconst 1, 1) := by decide +kernel
theorem dX2_number_16 : decode cX2_number 16 = .ok (.isub, 1) := by decide +kernel
theorem dX2_number_17 : decode cX2_number 17 = .ok (.iaload, 1) := by decide +kernel
theorem dX2_number_18 : decode cX2_number 18 = .ok (.goto 4, 3) := by decide +kernel
theorem dX2_number_21 : decode cX2_number 21 = .ok (.iconst 0, 1) := by decide +kernel
theorem dX2_number_22 : decode cX2_number 22 = .ok (.ireturn, 1) := by decide +kernel
theorem dX2_causes_0 : decode cX2_causes 0 = .ok (.aload_n 0, 1) := by decide +kernel
theorem dX2_causes_1 : decode cX2_causes 1 = .ok (.getfield 18, 3) := by decide +kernel
theorem dX2_causes_4 : decode cX2_causes 4 = .ok (.ifCond .le 12, 3) := by decide +kernel
theorem dX2_causes_7 : decode cX2_causes 7 = .ok (.aload_n 0, 1) := by decide +kernel
theorem dX2_causes_8 : decode cX2_causes 8 = .ok (.getfield 18, 3) := by decide +kernel
theorem dX2_causes_11 : decode cX2_causes 11 = .ok (.iconst 1, 1) := by decide +kernel
theorem dX2_causes_12 : decode cX2_causes 12 = .ok (.isub, 1) := by decide +kernel
theorem dX2_causes_13 : decode cX2_causes 13 = .ok (.goto 4, 3) := by decide +kernel
theorem dX2_causes_16 : decode cX2_causes 16 = .ok (.iconst 0, 1) := by decide +kernel
theorem dX2_causes_17 : decode cX2_causes 17 = .ok (.ireturn, 1) := by decide +kernel
set_option maxRecDepth 20000 in
theorem ggX2_lastCauseKind_X2_causes : GoodIn wsX2_lastCauseKind wsX2_causes := goodIn_r _ [6, 7, 8, 9, 10] (by decide +kernel) (by decide +kernel)
set_option maxRecDepth 20000 in
theorem gX2_lastCauseKind_X2_causes : GoodIn wsX2_lastCauseKind (wsV RX2 22 RX2 yX2_causes wsX2_causes) := goodIn_app (goodIn_of _ (by decide +kernel)) ggX2_lastCauseKind_X2_causes
theorem dX2_lastCauseKind_0 : decode cX2_lastCauseKind 0 = .ok (.aload_n 0, 1) := by decide +kernel
theorem dX2_lastCauseKind_1 : decode cX2_lastCauseKind 1 = .ok (.invokevirtual 22, 3) := by decide +kernel
theorem dX2_lastCauseKind_4 : decode cX2_lastCauseKind 4 = .ok (.ifCond .le 12, 3) := by decide +kernel
theorem dX2_lastCauseKind_7 : decode cX2_lastCauseKind 7 = .ok (.aload_n 0, 1) := by decide +kernel
theorem dX2_lastCauseKind_8 : decode cX2_lastCauseKind 8 = .ok (.getfield 11, 3) := by decide +kernel
theorem dX2_lastCauseKind_11 : decode cX2_lastCauseKind 11 = .ok (.iconst 0, 1) := by decide +kernel
theorem dX2_lastCauseKind_12 : decode cX2_lastCauseKind 12 = .ok (.iaload, 1) := by decide +kernel
theorem dX2_lastCauseKind_13 : decode cX2_lastCauseKind 13 = .ok (.goto 4, 3) := by decide +kernel
theorem dX2_lastCauseKind_16 : decode cX2_lastCauseKind 16 = .ok (.iconst 0, 1) := by decide +kernel
theorem dX2_lastCauseKind_17 : decode cX2_lastCauseKind 17 = .ok (.ireturn, 1) := by decide +kernel
set_option maxRecDepth 20000 in
theorem ggX2_lastCauseNumber_X2_causes : GoodIn wsX2_lastCauseNumber wsX2_causes := goodIn_r _ [6, 7, 8, 9, 10] (by decide +kernel) (by decide +kernel)
set_option maxRecDepth 20000 in
theorem gX2_lastCauseNumber_X2_causes : GoodIn wsX2_lastCauseNumber (wsV RX2 22 RX2 yX2_causes wsX2_causes) := goodIn_app (goodIn_of _ (by decide +kernel)) ggX2_lastCauseNumber_X2_causes
theorem dX2_lastCauseNumber_0 : decode cX2_lastCauseNumber 0 = .ok (.aload_n 0, 1) := by decide +kernel
theorem dX2_lastCauseNumber_1 : decode cX2_lastCauseNumber 1 = .ok (.invokevirtual 22, 3) := by decide +kernel
theorem dX2_lastCauseNumber_4 : decode cX2_lastCauseNumber 4 = .ok (.ifCond .le 12, 3) := by decide +kernel
theorem dX2_lastCauseNumber_7 : decode cX2_lastCauseNumber 7 = .ok (.aload_n 0, 1) := by decide +kernel
theorem dX2_lastCauseNumber_8 : decode cX2_lastCauseNumber 8 = .ok (.getfield 15, 3) := by decide +kernel
theorem dX2_lastCauseNumber_11 : decode cX2_lastCauseNumber 11 = .ok (.iconst 0, 1) := by decide +kernel
theorem dX2_lastCauseNumber_12 : decode cX2_lastCauseNumber 12 = .ok (.iaload, 1) := by decide +kernel
theorem dX2_lastCauseNumber_13 : decode cX2_lastCauseNumber 13 = .ok (.goto 4, 3) := by decide +kernel
theorem dX2_lastCauseNumber_16 : decode cX2_lastCauseNumber 16 = .ok (.iconst 0, 1) := by decide +kernel
theorem dX2_lastCauseNumber_17 : decode cX2_lastCauseNumber 17 = .ok (.ireturn, 1) := by decide +kernel
set_option maxRecDepth 20000 in
theorem ggX3_init_X1_init : GoodIn wsX3_init wsX1_init := goodIn_r _ [17, 18, 2, 3, 19, 20, 33, 34] (by decide +kernel) (by decide +kernel)
set_option maxRecDepth 20000 in
theorem gX3_init_X1_init_n17 : GoodIn wsX3_init (wsX1_init) := ggX3_init_X1_init
set_option maxRecDepth 20000 in
theorem ggX3_init_X2_init : GoodIn wsX3_init wsX2_init := goodIn_r _ [22, 23, 2, 3, 19, 24, 25, 35, 36, 37] (by decide +kernel) (by decide +kernel)
set_option maxRecDepth 20000 in
theorem gX3_init_X2_init_n24 : GoodIn wsX3_init (wsX2_init) := ggX3_init_X2_init
set_option maxRecDepth 20000 in
theorem ggX3_init_X0_init : GoodIn wsX3_init wsX0_init := goodIn_r _ [27, 28, 2, 3] (by decide +kernel) (by decide +kernel)
set_option maxRecDepth 20000 in
theorem gX3_init_X0_init_n29 : GoodIn wsX3_init (wsX0_init) := ggX3_init_X0_init
theorem dX3_init_0 : decode cX3_init 0 = .ok (.aload_n 0, 1) := by decide +kernel
theorem dX3_init_1 : decode cX3_init 1 = .ok (.invokespecial 1, 3) := by decide +kernel
theorem dX3_init_4 : decode cX3_init 4 = .ok (.aload_n 0, 1) := by decide +kernel
theorem dX3_init_5 : decode cX3_init 5 = .ok (.bipush 6, 2) := by decide +kernel
theorem dX3_init_7 : decode cX3_init 7 = .ok (.anewarray 9, 3) := by decide +kernel
theorem dX3_init_10 : decode cX3_init 10 = .ok (.putfield 11, 3) := by decide +kernel
theorem dX3_init_13 : decode cX3_init 13 = .ok (.aload_n 0, 1) := by decide +kernel
theorem dX3_init_14 : decode cX3_init 14 = .ok (.new 15, 3) := by decide +kernel
theorem dX3_init_17 : decode cX3_init 17 = .ok (.dup, 1) := by decide +kernel
theorem dX3_init_18 : decode cX3_init 18 = .ok (.invokespecial 17, 3) := by decide +kernel
theorem dX3_init_21 : decode cX3_init 21 = .ok (.putfield 18, 3) := by decide +kernel
theorem dX3_init_24 : decode cX3_init 24 = .ok (.aload_n 0, 1) := by decide +kernel
theorem dX3_init_25 : decode cX3_init 25 = .ok (.new 22, 3) := by decide +kernel
theorem dX3_init_28 : decode cX3_init 28 = .ok (.dup, 1) := by decide +kernel
theorem dX3_init_29 : decode cX3_init 29 = .ok (.invokespecial 24, 3) := by decide +kernel
theorem dX3_init_32 : decode cX3_init 32 = .ok (.putfield 25, 3) := by decide +kernel
theorem dX3_init_35 : decode cX3_init 35 = .ok (.iconst 0, 1) := by decide +kernel
theorem dX3_init_36 : decode cX3_init 36 = .ok (.istore_n 1, 1) := by decide +kernel
theorem dX3_init_37 : decode cX3_init 37 = .ok (.iload_n 1, 1) := by decide +kernel
theorem dX3_init_38 : decode cX3_init 38 = .ok (.bipush 6, 2) := by decide +kernel
theorem dX3_init_40 : decode cX3_init 40 = .ok (.if_icmp .ge 22, 3) := by decide +kernel
theorem dX3_init_43 : decode cX3_init 43 = .ok (.aload_n 0, 1) := by decide +kernel
theorem dX3_init_44 : decode cX3_init 44 = .ok (.getfield 11, 3) := by decide +kernel
theorem dX3_init_47 : decode cX3_init 47 = .ok (.iload_n 1, 1) := by decide +kernel
theorem dX3_init_48 : decode cX3_init 48 = .ok (.new 9, 3) := by decide +kernel
theorem dX3_init_51 : decode cX3_init 51 = .ok (.dup, 1) := by decide +kernel
theorem dX3_init_52 : decode cX3_init 52 = .ok (.invokespecial 29, 3) := by decide +kernel
theorem dX3_init_55 : decode cX3_init 55 = .ok (.aastore, 1) := by decide +kernel
theorem dX3_init_56 : decode cX3_init 56 = .ok (.iinc 1 1, 3) := by decide +kernel
theorem dX3_init_59 : decode cX3_init 59 = .ok (.goto (-22), 3) := by decide +kernel
theorem dX3_init_62 : decode cX3_init 62 = .ok (.return_, 1) := by decide +kernel
set_option maxRecDepth 20000 in
theorem ggX3_set_X3_isLevel : GoodIn wsX3_set wsX3_isLevel := goodIn_r _ [8] (by decide +kernel) (by decide +kernel)
set_option maxRecDepth 20000 in
theorem gX3_set_X3_isLevel : GoodIn wsX3_set (va_wsS RX3 30 yX3_isLevel wsX3_isLevel) := goodIn_app (goodIn_of _ (by decide +kernel)) ggX3_set_X3_isLevel
theorem dX3_set_0 : decode cX3_set 0 = .ok (.iload_n 1, 1) := by decide +kernel
theorem dX3_set_1 : decode cX3_set 1 = .ok (.invokestatic 30, 3) := by decide +kernel
theorem dX3_set_4 : decode cX3_set 4 = .ok (.ifCond .ne 13, 3) := by decide +kernel
theorem dX3_set_7 : decode cX3_set 7 = .ok (.new 34, 3) := by decide +kernel
theorem dX3_set_10 : decode cX3_set 10 = .ok (.dup, 1) := by decide +kernel
theorem dX3_set_11 : decode cX3_set 11 = .ok (.ldc 36, 2) := by decide +kernel
theorem dX3_set_13 : decode cX3_set 13 = .ok (.invokespecial 38, 3) := by decide +kernel
theorem dX3_set_16 : decode cX3_set 16 = .ok (.athrow, 1) := by decide +kernel
theorem dX3_set_17 : decode cX3_set 17 = .ok (.aload_n 0, 1) := by decide +kernel
theorem dX3_set_18 : decode cX3_set 18 = .ok (.getfield 11, 3) := by decide +kernel
theorem dX3_set_21 : decode cX3_set 21 = .ok (.iload_n 1, 1) := by decide +kernel
theorem dX3_set_22 : decode cX3_set 22 = .ok (.aaload, 1) := by decide +kernel
theorem dX3_set_23 : decode cX3_set 23 = .ok (.astore 6, 2) := by decide +kernel
theorem dX3_set_25 : decode cX3_set 25 = .ok (.aload 6, 2) := by decide +kernel
theorem dX3_set_27 : decode cX3_set 27 = .ok (.getfield 41, 3) := by decide +kernel
theorem dX3_set_30 : decode cX3_set 30 = .ok (.istore 7, 2) := by decide +kernel
theorem dX3_set_32 : decode cX3_set 32 = .ok (.aload 6, 2) := by decide +kernel
theorem dX3_set_34 : decode cX3_set 34 = .ok (.iload_n 2, 1) := by decide +kernel
theorem dX3_set_35 : decode cX3_set 35 = .ok (.putfield 45, 3) := by decide +kernel
theorem dX3_set_38 : decode cX3_set 38 = .ok (.aload 6, 2) := by decide +kernel
theorem dX3_set_40 : decode cX3_set 40 = .ok (.iload_n 3, 1) := by decide +kernel
theorem dX3_set_41 : decode cX3_set 41 = .ok (.putfield 48, 3) := by decide +kernel
theorem dX3_set_44 : decode cX3_set 44 = .ok (.aload 6, 2) := by decide +kernel
theorem dX3_set_46 : decode cX3_set 46 = .ok (.iload 4, 2) := by decide +kernel
theorem dX3_set_48 : decode cX3_set 48 = .ok (.putfield 51, 3) := by decide +kernel
theorem dX3_set_51 : decode cX3_set 51 = .ok (.aload 6, 2) := by decide +kernel
theorem dX3_set_53 : decode cX3_set 53 = .ok (.iload 5, 2) := by decide +kernel
theorem dX3_set_55 : decode cX3_set 55 = .ok (.putfield 41, 3) := by decide +kernel
theorem dX3_set_58 : decode cX3_set 58 = .ok (.iload 7, 2) := by decide +kernel
theorem dX3_set_60 : decode cX3_set 60 = .ok (.ireturn, 1) := by decide +kernel
set_option maxRecDepth 20000 in
theorem ggX3_run_X3_isLevel : GoodIn wsX3_run wsX3_isLevel := goodIn_r _ [10] (by decide +kernel) (by decide +kernel)
set_option maxRecDepth 20000 in
theorem gX3_run_X3_isLevel : GoodIn wsX3_run (va_wsS RX3 30 yX3_isLevel wsX3_isLevel) := goodIn_app (goodIn_of _ (by decide +kernel)) ggX3_run_X3_isLevel
set_option maxRecDepth 20000 in
theorem ggX3_run_X1_beginAnew : GoodIn wsX3_run wsX1_beginAnew := goodIn_r _ [15, 16, 96, 97] (by decide +kernel) (by decide +kernel)
set_option maxRecDepth 20000 in
theorem gX3_run_X1_beginAnew : GoodIn wsX3_run (wsV RX3 57 RX1 yX1_beginAnew wsX1_beginAnew) := goodIn_app (goodIn_of _ (by decide +kernel)) ggX3_run_X1_beginAnew
set_option maxRecDepth 20000 in
theorem ggX3_run_X2_drop : GoodIn wsX3_run wsX2_drop := goodIn_r _ [21, 22, 98, 99, 100] (by decide +kernel) (by decide +kernel)
set_option maxRecDepth 20000 in
theorem gX3_run_X2_drop : GoodIn wsX3_run (wsV RX3 60 RX2 yX2_drop wsX2_drop) := goodIn_app (goodIn_of _ (by decide +kernel)) ggX3_run_X2_drop
set_option maxRecDepth 20000 in
theorem ggX3_run_X3_doLevel : GoodIn wsX3_run wsX3_doLevel := goodIn_ca (goodIn_ca (goodIn_r _ [26, 5, 27, 6, 28, 29, 30, 14, 31, 16, 32, 33, 34, 35, 9, 36, 37, 38, 20, 39, 22, 40, 41, 42, 43, 44, 45, 46, 47, 48, 49, 50, 51, 52, 53, 17, 18, 19, 21, 54, 55, 56, 57, 58, 59, 60, 61, 62, 63, 64, 65, 66, 67, 68, 69, 70, 71, 72, 73, 23, 24, 25, 92, 93, 94, 95, 96, 97, 98, 99, 100, 101, 102, 103, 104] (by decide +kernel) (by decide +kernel)) (goodIn_sub (fun _ h => List.mem_cons_of_mem _ (List.mem_append_left _ (List.mem_append_left _ (List.mem_append_left _ (List.mem_append_left _ (List.mem_append_right _ h)))))) (by decide +kernel))) (goodIn_sub (fun _ h => List.mem_cons_of_mem _ (List.mem_append_left _ (List.mem_append_left _ (List.mem_append_left _ (List.mem_append_right _ h))))) (by decide +kernel))
set_option maxRecDepth 20000 in
theorem gX3_run_X3_doLevel : GoodIn wsX3_run (wsV RX3 63 RX3 yX3_doLevel wsX3_doLevel) := goodIn_app (goodIn_of _ (by decide +kernel)) ggX3_run_X3_doLevel
set_option maxRecDepth 20000 in
theorem ggX3_run_X2_kind : GoodIn wsX3_run wsX2_kind := goodIn_ca (goodIn_ca (goodIn_r _ [39, 22, 40, 98, 99, 100] (by decide +kernel) (by decide +kernel)) (goodIn_sub (fun _ h => List.mem_cons_of_mem _ (List.mem_append_left _ (List.mem_append_left _ (List.mem_append_left _ (List.mem_append_right _ h))))) (by decide +kernel))) (goodIn_sub (fun _ h => List.mem_cons_of_mem _ (List.mem_append_left _ (List.mem_append_left _ (List.mem_append_left _ (List.mem_append_left _ (List.mem_append_right _ h)))))) (by decide +kernel))
set_option maxRecDepth 20000 in
theorem gX3_run_X2_kind : GoodIn wsX3_run (wsV RX3 67 RX2 yX2_kind wsX2_kind) := goodIn_app (goodIn_of _ (by decide +kernel)) ggX3_run_X2_kind
set_option maxRecDepth 20000 in
theorem ggX3_run_X3_throwOut : GoodIn wsX3_run wsX3_throwOut := goodIn_ca (goodIn_ca (goodIn_ca (goodIn_ca (goodIn_r _ [76, 77, 78, 79, 80, 81, 82, 83, 84, 85, 1, 2, 3, 105, 106, 107, 108, 109, 110, 111, 112, 86, 87, 88, 89, 90, 91] (by decide +kernel) (by decide +kernel)) (goodIn_sub (fun _ h => List.mem_cons_of_mem _ (List.mem_append_left _ (List.mem_append_left _ (List.mem_append_right _ h)))) (by decide +kernel))) (goodIn_sub (fun _ h => List.mem_cons_of_mem _ (List.mem_append_left _ (List.mem_append_left _ (List.mem_append_left _ (List.mem_append_left _ (List.mem_append_right _ h)))))) (by decide +kernel))) (goodIn_sub (fun _ h => List.mem_cons_of_mem _ (List.mem_append_left _ (List.mem_append_right _ h))) (by decide +kernel))) (goodIn_sub (fun _ h => List.mem_cons_of_mem _ (List.mem_append_right _ h)) (by decide +kernel))
set_option maxRecDepth 20000 in
theorem gX3_run_X3_throwOut : GoodIn wsX3_run (va_wsS RX3 71 yX3_throwOut wsX3_throwOut) := goodIn_app (goodIn_of _ (by decide +kernel)) ggX3_run_X3_throwOut
theorem dX3_run_0 : decode cX3_run 0 = .ok (.iload_n 1, 1) := by decide +kernel
theorem dX3_run_1 : decode cX3_run 1 = .ok (.invokestatic 30, 3) := by decide +kernel
theorem dX3_run_4 : decode cX3_run 4 = .ok (.ifCond .ne 13, 3) := by decide +kernel
theorem dX3_run_7 : decode cX3_run 7 = .ok (.new 34, 3) := by decide +kernel
theorem dX3_run_10 : decode cX3_run 10 = .ok (.dup, 1) := by decide +kernel
theorem dX3_run_11 : decode cX3_run 11 = .ok (.ldc 36, 2) := by decide +kernel
theorem dX3_run_13 : decode cX3_run 13 = .ok (.invokespecial 38, 3) := by decide +kernel
theorem dX3_run_16 : decode cX3_run 16 = .ok (.athrow, 1) := by decide +kernel
theorem dX3_run_17 : decode cX3_run 17 = .ok (.aload_n 0, 1) := by decide +kernel
theorem dX3_run_18 : decode cX3_run 18 = .ok (.dup, 1) := by decide +kernel
theorem dX3_run_19 : decode cX3_run 19 = .ok (.getfield 54, 3) := by decide +kernel
theorem dX3_run_22 : decode cX3_run 22 = .ok (.iconst 1, 1) := by decide +kernel
theorem dX3_run_23 : decode cX3_run 23 = .ok (.iadd, 1) := by decide +kernel
theorem dX3_run_24 : decode cX3_run 24 = .ok (.putfield 54, 3) := by decide +kernel
theorem dX3_run_27 : decode cX3_run 27 = .ok (.aload_n 0, 1) := by decide +kernel
theorem dX3_run_28 : decode cX3_run 28 = .ok (.getfield 18, 3) := by decide +kernel
theorem dX3_run_31 : decode cX3_run 31 = .ok (.invokevirtual 57, 3) := by decide +kernel
theorem dX3_run_34 : decode cX3_run 34 = .ok (.aload_n 0, 1) := by decide +kernel
theorem dX3_run_35 : decode cX3_run 35 = .ok (.getfield 25, 3) := by decide +kernel
theorem dX3_run_38 : decode cX3_run 38 = .ok (.invokevirtual 60, 3) := by decide +kernel
theorem dX3_run_41 : decode cX3_run 41 = .ok (.aload_n 0, 1) := by decide +kernel
theorem dX3_run_42 : decode cX3_run 42 = .ok (.iload_n 1, 1) := by decide +kernel
theorem dX3_run_43 : decode cX3_run 43 = .ok (.iload_n 2, 1) := by decide +kernel
theorem dX3_run_44 : decode cX3_run 44 = .ok (.iload_n 3, 1) := by decide +kernel
theorem dX3_run_45 : decode cX3_run 45 = .ok (.invokevirtual 63, 3) := by decide +kernel
theorem dX3_run_48 : decode cX3_run 48 = .ok (.lstore 4, 2) := by decide +kernel
theorem dX3_run_50 : decode cX3_run 50 = .ok (.aload_n 0, 1) := by decide +kernel
theorem dX3_run_51 : decode cX3_run 51 = .ok (.getfield 25, 3) := by decide +kernel
theorem dX3_run_54 : decode cX3_run 54 = .ok (.invokevirtual 67, 3) := by decide +kernel
theorem dX3_run_57 : decode cX3_run 57 = .ok (.invokestatic 71, 3) := by decide +kernel
theorem dX3_run_60 : decode cX3_run 60 = .ok (.lload 4, 2) := by decide +kernel
theorem dX3_run_62 : decode cX3_run 62 = .ok (.lreturn, 1) := by decide +kernel
set_option maxRecDepth 20000 in
theorem ggX3_note_X1_kept : GoodIn wsX3_note wsX1_kept := goodIn_ca (goodIn_r _ [9, 10, 11, 12, 13, 14, 15, 26, 27] (by decide +kernel) (by decide +kernel)) (goodIn_sub (fun _ h => List.mem_cons_of_mem _ (List.mem_append_left _ (List.mem_append_right _ h))) (by decide +kernel))
set_option maxRecDepth 20000 in
theorem gX3_note_X1_kept : GoodIn wsX3_note (wsV RX3 75 RX1 yX1_kept wsX1_kept) := goodIn_app (goodIn_of _ (by decide +kernel)) ggX3_note_X1_kept
theorem dX3_note_0 : decode cX3_note 0 = .ok (.iload_n 1, 1) := by decide +kernel
theorem dX3_note_1 : decode cX3_note 1 = .ok (.ifCond .lt 14, 3) := by decide +kernel
theorem dX3_note_4 : decode cX3_note 4 = .ok (.iload_n 1, 1) := by decide +kernel
theorem dX3_note_5 : decode cX3_note 5 = .ok (.aload_n 0, 1) := by decide +kernel
theorem dX3_note_6 : decode cX3_note 6 = .ok (.getfield 18, 3) := by decide +kernel
theorem dX3_note_9 : decode cX3_note 9 = .ok (.invokevirtual 75, 3) := by decide +kernel
theorem dX3_note_12 : decode cX3_note 12 = .ok (.if_icmp .lt 13, 3) := by decide +kernel
theorem dX3_note_15 : decode cX3_note 15 = .ok (.new 34, 3) := by decide +kernel
theorem dX3_note_18 : decode cX3_note 18 = .ok (.dup, 1) := by decide +kernel
theorem dX3_note_19 : decode cX3_note 19 = .ok (.ldc 78, 2) := by decide +kernel
theorem dX3_note_21 : decode cX3_note 21 = .ok (.invokespecial 38, 3) := by decide +kernel
theorem dX3_note_24 : decode cX3_note 24 = .ok (.athrow, 1) := by decide +kernel
theorem dX3_note_25 : decode cX3_note 25 = .ok (.aload_n 0, 1) := by decide +kernel
theorem dX3_note_26 : decode cX3_note 26 = .ok (.getfield 18, 3) := by decide +kernel
theorem dX3_note_29 : decode cX3_note 29 = .ok (.getfield 80, 3) := by decide +kernel
theorem dX3_note_32 : decode cX3_note 32 = .ok (.iload_n 1, 1) := by decide +kernel
theorem dX3_note_33 : decode cX3_note 33 = .ok (.iaload, 1) := by decide +kernel
theorem dX3_note_34 : decode cX3_note 34 = .ok (.ireturn, 1) := by decide +kernel
set_option maxRecDepth 20000 in
theorem ggX3_count_X2_kind : GoodIn wsX3_count wsX2_kind := goodIn_ca (goodIn_ca (goodIn_r _ [11, 12, 13, 46, 47, 48] (by decide +kernel) (by decide +kernel)) (goodIn_sub (fun _ h => List.mem_cons_of_mem _ (List.mem_append_right _ h)) (by decide +kernel))) (goodIn_sub (fun _ h => List.mem_cons_of_mem _ (List.mem_append_left _ (List.mem_append_right _ h))) (by decide +kernel))
set_option maxRecDepth 20000 in
theorem gX3_count_X2_kind : GoodIn wsX3_count (wsV RX3 67 RX2 yX2_kind wsX2_kind) := goodIn_app (goodIn_of _ (by decide +kernel)) ggX3_count_X2_kind
set_option maxRecDepth 20000 in
theorem ggX3_count_X2_number : GoodIn wsX3_count wsX2_number := goodIn_ca (goodIn_ca (goodIn_r _ [17, 12, 18, 46, 47, 48] (by decide +kernel) (by decide +kernel)) (goodIn_sub (fun _ h => List.mem_cons_of_mem _ (List.mem_append_right _ h)) (by decide +kernel))) (goodIn_sub (fun _ h => List.mem_cons_of_mem _ (List.mem_append_left _ (List.mem_append_right _ h))) (by decide +kernel))
set_option maxRecDepth 20000 in
theorem gX3_count_X2_number : GoodIn wsX3_count (wsV RX3 87 RX2 yX2_number wsX2_number) := goodIn_app (goodIn_of _ (by decide +kernel)) ggX3_count_X2_number
set_option maxRecDepth 20000 in
theorem ggX3_count_X2_causes : GoodIn wsX3_count wsX2_causes := goodIn_r _ [22, 12, 46, 47, 48] (by decide +kernel) (by decide +kernel)
set_option maxRecDepth 20000 in
theorem gX3_count_X2_causes : GoodIn wsX3_count (wsV RX3 90 RX2 yX2_causes wsX2_causes) := goodIn_app (goodIn_of _ (by decide +kernel)) ggX3_count_X2_causes
set_option maxRecDepth 20000 in
theorem ggX3_count_X2_lastCauseKind : GoodIn wsX3_count wsX2_lastCauseKind := goodIn_ca (goodIn_ca (goodIn_r _ [26, 13, 27, 20, 21, 10, 22, 12, 46, 47, 48] (by decide +kernel) (by decide +kernel)) (goodIn_sub (fun _ h => List.mem_cons_of_mem _ (List.mem_append_left _ (List.mem_append_right _ h))) (by decide +kernel))) (goodIn_sub (fun _ h => List.mem_cons_of_mem _ (List.mem_append_right _ h)) (by decide +kernel))
set_option maxRecDepth 20000 in
theorem gX3_count_X2_lastCauseKind : GoodIn wsX3_count (wsV RX3 93 RX2 yX2_lastCauseKind wsX2_lastCauseKind) := goodIn_app (goodIn_of _ (by decide +kernel)) ggX3_count_X2_lastCauseKind
set_option maxRecDepth 20000 in
theorem ggX3_count_X2_lastCauseNumber : GoodIn wsX3_count wsX2_lastCauseNumber := goodIn_ca (goodIn_ca (goodIn_r _ [31, 18, 27, 20, 21, 10, 22, 12, 46, 47, 48] (by decide +kernel) (by decide +kernel)) (goodIn_sub (fun _ h => List.mem_cons_of_mem _ (List.mem_append_left _ (List.mem_append_right _ h))) (by decide +kernel))) (goodIn_sub (fun _ h => List.mem_cons_of_mem _ (List.mem_append_right _ h)) (by decide +kernel))
set_option maxRecDepth 20000 in
theorem gX3_count_X2_lastCauseNumber : GoodIn wsX3_count (wsV RX3 96 RX2 yX2_lastCauseNumber wsX2_lastCauseNumber) := goodIn_app (goodIn_of _ (by decide +kernel)) ggX3_count_X2_lastCauseNumber
theorem dX3_count_0 : decode cX3_count 0 = .ok (.iload_n 1, 1) := by decide +kernel
theorem dX3_count_1 : decode cX3_count 1 = .ok (.tableswitch 96 0 6 #[43, 51, 56, 64, 72, 80, 88], 43) := by decide +kernel
theorem dX3_count_44 : decode cX3_count 44 = .ok (.aload_n 0, 1) := by decide +kernel
theorem dX3_count_45 : decode cX3_count 45 = .ok (.getfield 18, 3) := by decide +kernel
theorem dX3_count_48 : decode cX3_count 48 = .ok (.getfield 84, 3) := by decide +kernel
theorem dX3_count_51 : decode cX3_count 51 = .ok (.ireturn, 1) := by decide +kernel
theorem dX3_count_52 : decode cX3_count 52 = .ok (.aload_n 0, 1) := by decide +kernel
theorem dX3_count_53 : decode cX3_count 53 = .ok (.getfield 54, 3) := by decide +kernel
theorem dX3_count_56 : decode cX3_count 56 = .ok (.ireturn, 1) := by decide +kernel
theorem dX3_count_57 : decode cX3_count 57 = .ok (.aload_n 0, 1) := by decide +kernel
theorem dX3_count_58 : decode cX3_count 58 = .ok (.getfield 25, 3) := by decide +kernel
theorem dX3_count_61 : decode cX3_count 61 = .ok (.invokevirtual 67, 3) := by decide +kernel
theorem dX3_count_64 : decode cX3_count 64 = .ok (.ireturn, 1) := by decide +kernel
theorem dX3_count_65 : decode cX3_count 65 = .ok (.aload_n 0, 1) := by decide +kernel
theorem dX3_count_66 : decode cX3_count 66 = .ok (.getfield 25, 3) := by decide +kernel
theorem dX3_count_69 : decode cX3_count 69 = .ok (.invokevirtual 87, 3) := by decide +kernel
theorem dX3_count_72 : decode cX3_count 72 = .ok (.ireturn, 1) := by decide +kernel
theorem dX3_count_73 : decode cX3_count 73 = .ok (.aload_n 0, 1) := by decide +kernel
theorem dX3_count_74 : decode cX3_count 74 = .ok (.getfield 25, 3) := by decide +kernel
theorem dX3_count_77 : decode cX3_count 77 = .ok (.invokevirtual 90, 3) := by decide +kernel
theorem dX3_count_80 : decode cX3_count 80 = .ok (.ireturn, 1) := by decide +kernel
theorem dX3_count_81 : decode cX3_count 81 = .ok (.aload_n 0, 1) := by decide +kernel
theorem dX3_count_82 : decode cX3_count 82 = .ok (.getfield 25, 3) := by decide +kernel
theorem dX3_count_85 : decode cX3_count 85 = .ok (.invokevirtual 93, 3) := by decide +kernel
theorem dX3_count_88 : decode cX3_count 88 = .ok (.ireturn, 1) := by decide +kernel
theorem dX3_count_89 : decode cX3_count 89 = .ok (.aload_n 0, 1) := by decide +kernel
theorem dX3_count_90 : decode cX3_count 90 = .ok (.getfield 25, 3) := by decide +kernel
theorem dX3_count_93 : decode cX3_count 93 = .ok (.invokevirtual 96, 3) := by decide +kernel
theorem dX3_count_96 : decode cX3_count 96 = .ok (.ireturn, 1) := by decide +kernel
theorem dX3_count_97 : decode cX3_count 97 = .ok (.new 99, 3) := by decide +kernel
theorem dX3_count_100 : decode cX3_count 100 = .ok (.dup, 1) := by decide +kernel
theorem dX3_count_101 : decode cX3_count 101 = .ok (.ldc 101, 2) := by decide +kernel
theorem dX3_count_103 : decode cX3_count 103 = .ok (.invokespecial 103, 3) := by decide +kernel
theorem dX3_count_106 : decode cX3_count 106 = .ok (.athrow, 1) := by decide +kernel
theorem dX3_isLevel_0 : decode cX3_isLevel 0 = .ok (.iload_n 0, 1) := by decide +kernel
theorem dX3_isLevel_1 : decode cX3_isLevel 1 = .ok (.ifCond .lt 13, 3) := by decide +kernel
theorem dX3_isLevel_4 : decode cX3_isLevel 4 = .ok (.iload_n 0, 1) := by decide +kernel
theorem dX3_isLevel_5 : decode cX3_isLevel 5 = .ok (.bipush 6, 2) := by decide +kernel
theorem dX3_isLevel_7 : decode cX3_isLevel 7 = .ok (.if_icmp .ge 7, 3) := by decide +kernel
theorem dX3_isLevel_10 : decode cX3_isLevel 10 = .ok (.iconst 1, 1) := by decide +kernel
theorem dX3_isLevel_11 : decode cX3_isLevel 11 = .ok (.goto 4, 3) := by decide +kernel
theorem dX3_isLevel_14 : decode cX3_isLevel 14 = .ok (.iconst 0, 1) := by decide +kernel
theorem dX3_isLevel_15 : decode cX3_isLevel 15 = .ok (.ireturn, 1) := by decide +kernel
set_option maxRecDepth 20000 in
theorem ggX3_doLevel_X1_add : GoodIn wsX3_doLevel wsX1_add := goodIn_ca (goodIn_ca (goodIn_r _ [8, 9, 10, 66, 67] (by decide +kernel) (by decide +kernel)) (goodIn_sub (fun _ h => List.mem_cons_of_mem _ (List.mem_append_left _ (List.mem_append_right _ h))) (by decide +kernel))) (goodIn_sub (fun _ h => List.mem_cons_of_mem _ (List.mem_append_right _ h)) (by decide +kernel))
set_option maxRecDepth 20000 in
theorem gX3_doLevel_X1_add : GoodIn wsX3_doLevel (wsV RX3 104 RX1 yX1_add wsX1_add) := goodIn_app (goodIn_of _ (by decide +kernel)) ggX3_doLevel_X1_add
set_option maxRecDepth 20000 in
theorem ggX3_doLevel_X3_goDown : GoodIn wsX3_doLevel wsX3_goDown := goodIn_ca (goodIn_ca (goodIn_r _ [49, 2, 50, 51, 52, 14, 53, 54, 39, 40, 41, 42, 3, 35, 36, 37, 18, 38, 20, 43, 44, 45, 46, 21, 47, 55, 56, 57, 58, 1, 4, 5, 6, 7, 8, 9, 10, 59, 60, 61, 0, 11, 12, 13, 15, 16, 17, 19, 22, 23, 24, 25, 26, 27, 28, 29, 30, 31, 32, 33, 34, 48, 62, 63, 64, 65, 66, 67, 68, 69, 70, 71, 72, 73, 74] (by decide +kernel) (by decide +kernel)) (goodIn_sub (fun _ h => List.mem_cons_of_mem _ (List.mem_append_left _ (List.mem_append_right _ h))) (by decide +kernel))) (goodIn_sub (fun _ h => List.mem_cons_of_mem _ (List.mem_append_right _ h)) (by decide +kernel))
set_option maxRecDepth 20000 in
theorem gX3_doLevel_X3_goDown : GoodIn wsX3_doLevel (wsV RX3 107 RX3 yX3_goDown wsX3_goDown) := goodIn_app (goodIn_of _ (by decide +kernel)) ggX3_doLevel_X3_goDown
set_option maxRecDepth 20000 in
theorem ggX3_doLevel_X2_kind : GoodIn wsX3_doLevel wsX2_kind := goodIn_ca (goodIn_ca (goodIn_r _ [19, 20, 21, 68, 69, 70] (by decide +kernel) (by decide +kernel)) (goodIn_sub (fun _ h => List.mem_cons_of_mem _ (List.mem_append_right _ h)) (by decide +kernel))) (goodIn_sub (fun _ h => List.mem_cons_of_mem _ (List.mem_append_left _ (List.mem_append_right _ h))) (by decide +kernel))
set_option maxRecDepth 20000 in
theorem gX3_doLevel_X2_kind : GoodIn wsX3_doLevel (wsV RX3 67 RX2 yX2_kind wsX2_kind) := goodIn_app (goodIn_of _ (by decide +kernel)) ggX3_doLevel_X2_kind
set_option maxRecDepth 20000 in
theorem ggX3_doLevel_X0_takesKind : GoodIn wsX3_doLevel wsX0_takesKind := goodIn_r _ [26, 27, 71, 72, 73, 74] (by decide +kernel) (by decide +kernel)
set_option maxRecDepth 20000 in
theorem gX3_doLevel_X0_takesKind : GoodIn wsX3_doLevel (wsV RX3 110 RX0 yX0_takesKind wsX0_takesKind) := goodIn_app (goodIn_of _ (by decide +kernel)) ggX3_doLevel_X0_takesKind
set_option maxRecDepth 20000 in
theorem ggX3_doLevel_X3_doThen : GoodIn wsX3_doLevel wsX3_doThen := goodIn_ca (goodIn_ca (goodIn_r _ [48, 2, 1, 3, 15, 16, 17, 18, 19, 20, 21, 4, 5, 6, 7, 8, 9, 10, 35, 36, 37, 38, 43, 44, 45, 46, 47, 39, 40, 41, 14, 42, 11, 12, 13, 0, 22, 23, 24, 25, 26, 27, 28, 29, 30, 31, 32, 33, 34, 49, 50, 51, 52, 53, 54, 55, 56, 57, 58, 59, 60, 61, 62, 63, 64, 65, 66, 67, 68, 69, 70, 71, 72, 73, 74] (by decide +kernel) (by decide +kernel)) (goodIn_sub (fun _ h => List.mem_cons_of_mem _ (List.mem_append_left _ (List.mem_append_right _ h))) (by decide +kernel))) (goodIn_sub (fun _ h => List.mem_cons_of_mem _ (List.mem_append_right _ h)) (by decide +kernel))
set_option maxRecDepth 20000 in
theorem gX3_doLevel_X3_doThen : GoodIn wsX3_doLevel (wsV RX3 113 RX3 yX3_doThen wsX3_doThen) := goodIn_app (goodIn_of _ (by decide +kernel)) ggX3_doLevel_X3_doThen
set_option maxRecDepth 20000 in
theorem ggX3_doLevel_X3_doLast : GoodIn wsX3_doLevel wsX3_doLast := goodIn_ca (goodIn_ca (goodIn_r _ [34, 2, 1, 3, 4, 5, 6, 7, 8, 9, 10, 35, 36, 37, 18, 38, 20, 39, 40, 41, 14, 42, 43, 44, 45, 46, 21, 47, 62, 63, 64, 65, 71, 72, 73, 74, 66, 67, 68, 69, 70] (by decide +kernel) (by decide +kernel)) (goodIn_sub (fun _ h => List.mem_cons_of_mem _ (List.mem_append_left _ (List.mem_append_right _ h))) (by decide +kernel))) (goodIn_sub (fun _ h => List.mem_cons_of_mem _ (List.mem_append_right _ h)) (by decide +kernel))
set_option maxRecDepth 20000 in
theorem gX3_doLevel_X3_doLast : GoodIn wsX3_doLevel (wsV RX3 117 RX3 yX3_doLast wsX3_doLast) := goodIn_app (goodIn_of _ (by decide +kernel)) ggX3_doLevel_X3_doLast
theorem dX3_doLevel_0 : decode cX3_doLevel 0 = .ok (.aload_n 0, 1) := by decide +kernel
theorem dX3_doLevel_1 : decode cX3_doLevel 1 = .ok (.getfield 18, 3) := by decide +kernel
theorem dX3_doLevel_4 : decode cX3_doLevel 4 = .ok (.iload_n 1, 1) := by decide +kernel
theorem dX3_doLevel_5 : decode cX3_doLevel 5 = .ok (.invokevirtual 104, 3) := by decide +kernel
theorem dX3_doLevel_8 : decode cX3_doLevel 8 = .ok (.aload_n 0, 1) := by decide +kernel
theorem dX3_doLevel_9 : decode cX3_doLevel 9 = .ok (.iload_n 1, 1) := by decide +kernel
theorem dX3_doLevel_10 : decode cX3_doLevel 10 = .ok (.iload_n 2, 1) := by decide +kernel
theorem dX3_doLevel_11 : decode cX3_doLevel 11 = .ok (.iload_n 3, 1) := by decide +kernel
theorem dX3_doLevel_12 : decode cX3_doLevel 12 = .ok (.invokevirtual 107, 3) := by decide +kernel
theorem dX3_doLevel_15 : decode cX3_doLevel 15 = .ok (.lstore 4, 2) := by decide +kernel
theorem dX3_doLevel_17 : decode cX3_doLevel 17 = .ok (.aload_n 0, 1) := by decide +kernel
theorem dX3_doLevel_18 : decode cX3_doLevel 18 = .ok (.getfield 11, 3) := by decide +kernel
theorem dX3_doLevel_21 : decode cX3_doLevel 21 = .ok (.iload_n 1, 1) := by decide +kernel
theorem dX3_doLevel_22 : decode cX3_doLevel 22 = .ok (.aaload, 1) := by decide +kernel
theorem dX3_doLevel_23 : decode cX3_doLevel 23 = .ok (.aload_n 0, 1) := by decide +kernel
theorem dX3_doLevel_24 : decode cX3_doLevel 24 = .ok (.getfield 25, 3) := by decide +kernel
theorem dX3_doLevel_27 : decode cX3_doLevel 27 = .ok (.invokevirtual 67, 3) := by decide +kernel
theorem dX3_doLevel_30 : decode cX3_doLevel 30 = .ok (.invokevirtual 110, 3) := by decide +kernel
theorem dX3_doLevel_33 : decode cX3_doLevel 33 = .ok (.ifCond .eq 10, 3) := by decide +kernel
theorem dX3_doLevel_36 : decode cX3_doLevel 36 = .ok (.aload_n 0, 1) := by decide +kernel
theorem dX3_doLevel_37 : decode cX3_doLevel 37 = .ok (.iload_n 1, 1) := by decide +kernel
theorem dX3_doLevel_38 : decode cX3_doLevel 38 = .ok (.invokevirtual 113, 3) := by decide +kernel
theorem dX3_doLevel_41 : decode cX3_doLevel 41 = .ok (.lstore 4, 2) := by decide +kernel
theorem dX3_doLevel_43 : decode cX3_doLevel 43 = .ok (.aload_n 0, 1) := by decide +kernel
theorem dX3_doLevel_44 : decode cX3_doLevel 44 = .ok (.iload_n 1, 1) := by decide +kernel
theorem dX3_doLevel_45 : decode cX3_doLevel 45 = .ok (.lload 4, 2) := by decide +kernel
theorem dX3_doLevel_47 : decode cX3_doLevel 47 = .ok (.invokevirtual 117, 3) := by decide +kernel
theorem dX3_doLevel_50 : decode cX3_doLevel 50 = .ok (.lreturn, 1) := by decide +kernel
set_option maxRecDepth 20000 in
theorem ggX3_goDown_X3_reachBottom : GoodIn wsX3_goDown wsX3_reachBottom := goodIn_ca (goodIn_ca (goodIn_r _ [6, 7, 8, 9, 10, 5, 11, 12, 13, 14, 15, 16, 17, 18, 19, 20, 21, 22, 23, 24, 25, 26, 27, 28, 29, 30, 31, 32, 33, 34, 35, 36, 62, 63, 64, 65, 68, 69, 70, 66, 67] (by decide +kernel) (by decide +kernel)) (goodIn_sub (fun _ h => List.mem_cons_of_mem _ (List.mem_append_left _ (List.mem_append_right _ h))) (by decide +kernel))) (goodIn_sub (fun _ h => List.mem_cons_of_mem _ (List.mem_append_right _ h)) (by decide +kernel))
set_option maxRecDepth 20000 in
theorem gX3_goDown_X3_reachBottom : GoodIn wsX3_goDown (wsV RX3 121 RX3 yX3_reachBottom wsX3_reachBottom) := goodIn_app (goodIn_of _ (by decide +kernel)) ggX3_goDown_X3_reachBottom
set_option maxRecDepth 20000 in
theorem ggX3_goDown_X3_doLevel : GoodIn wsX3_goDown wsX3_doLevel := goodIn_ca (goodIn_ca (goodIn_r _ [40, 29, 1, 12, 30, 31, 32, 33, 34, 35, 36, 41, 42, 43, 5, 44, 45, 46, 16, 47, 18, 23, 48, 49, 50, 51, 52, 53, 54, 55, 56, 57, 58, 59, 60, 13, 14, 15, 17, 8, 9, 10, 11, 19, 20, 21, 22, 24, 61, 0, 2, 3, 4, 6, 7, 25, 26, 27, 28, 37, 38, 39, 62, 63, 64, 65, 66, 67, 68, 69, 70, 71, 72, 73, 74] (by decide +kernel) (by decide +kernel)) (goodIn_sub (fun _ h => List.mem_cons_of_mem _ (List.mem_append_left _ (List.mem_append_right _ h))) (by decide +kernel))) (goodIn_sub (fun _ h => List.mem_cons_of_mem _ (List.mem_append_right _ h)) (by decide +kernel))
set_option maxRecDepth 20000 in
theorem gX3_goDown_X3_doLevel : GoodIn wsX3_goDown (wsV RX3 63 RX3 yX3_doLevel wsX3_doLevel) := goodIn_app (goodIn_of _ (by decide +kernel)) ggX3_goDown_X3_doLevel
theorem dX3_goDown_0 : decode cX3_goDown 0 = .ok (.iload_n 1, 1) := by decide +kernel
theorem dX3_goDown_1 : decode cX3_goDown 1 = .ok (.ifCond .gt 10, 3) := by decide +kernel
theorem dX3_goDown_4 : decode cX3_goDown 4 = .ok (.aload_n 0, 1) := by decide +kernel
theorem dX3_goDown_5 : decode cX3_goDown 5 = .ok (.iload_n 2, 1) := by decide +kernel
theorem dX3_goDown_6 : decode cX3_goDown 6 = .ok (.iload_n 3, 1) := by decide +kernel
theorem dX3_goDown_7 : decode cX3_goDown 7 = .ok (.invokevirtual 121, 3) := by decide +kernel
theorem dX3_goDown_10 : decode cX3_goDown 10 = .ok (.lreturn, 1) := by decide +kernel
theorem dX3_goDown_11 : decode cX3_goDown 11 = .ok (.aload_n 0, 1) := by decide +kernel
theorem dX3_goDown_12 : decode cX3_goDown 12 = .ok (.iload_n 1, 1) := by decide +kernel
theorem dX3_goDown_13 : decode cX3_goDown 13 = .ok (.iconst 1, 1) := by decide +kernel
theorem dX3_goDown_14 : decode cX3_goDown 14 = .ok (.isub, 1) := by decide +kernel
theorem dX3_goDown_15 : decode cX3_goDown 15 = .ok (.iload_n 2, 1) := by decide +kernel
theorem dX3_goDown_16 : decode cX3_goDown 16 = .ok (.iload_n 3, 1) := by decide +kernel
theorem dX3_goDown_17 : decode cX3_goDown 17 = .ok (.invokevirtual 63, 3) := by decide +kernel
theorem dX3_goDown_20 : decode cX3_goDown 20 = .ok (.aload_n 0, 1) := by decide +kernel
theorem dX3_goDown_21 : decode cX3_goDown 21 = .ok (.getfield 11, 3) := by decide +kernel
theorem dX3_goDown_24 : decode cX3_goDown 24 = .ok (.iload_n 1, 1) := by decide +kernel
theorem dX3_goDown_25 : decode cX3_goDown 25 = .ok (.aaload, 1) := by decide +kernel
theorem dX3_goDown_26 : decode cX3_goDown 26 = .ok (.getfield 41, 3) := by decide +kernel
theorem dX3_goDown_29 : decode cX3_goDown 29 = .ok (.i2l, 1) := by decide +kernel
theorem dX3_goDown_30 : decode cX3_goDown 30 = .ok (.ladd, 1) := by decide +kernel
theorem dX3_goDown_31 : decode cX3_goDown 31 = .ok (.lreturn, 1) := by decide +kernel
set_option maxRecDepth 20000 in
theorem ggX3_doThen_X2_kind : GoodIn wsX3_doThen wsX2_kind := goodIn_ca (goodIn_ca (goodIn_r _ [8, 9, 10, 68, 69, 70] (by decide +kernel) (by decide +kernel)) (goodIn_sub (fun _ h => List.mem_cons_of_mem _ (List.mem_append_right _ h)) (by decide +kernel))) (goodIn_sub (fun _ h => List.mem_cons_of_mem _ (List.mem_append_left _ (List.mem_append_right _ h))) (by decide +kernel))
set_option maxRecDepth 20000 in
theorem gX3_doThen_X2_kind : GoodIn wsX3_doThen (wsV RX3 67 RX2 yX2_kind wsX2_kind) := goodIn_app (goodIn_of _ (by decide +kernel)) ggX3_doThen_X2_kind
set_option maxRecDepth 20000 in
theorem ggX3_doThen_X1_add : GoodIn wsX3_doThen wsX1_add := goodIn_ca (goodIn_ca (goodIn_r _ [15, 16, 17, 66, 67] (by decide +kernel) (by decide +kernel)) (goodIn_sub (fun _ h => List.mem_cons_of_mem _ (List.mem_append_left _ (List.mem_append_right _ h))) (by decide +kernel))) (goodIn_sub (fun _ h => List.mem_cons_of_mem _ (List.mem_append_right _ h)) (by decide +kernel))
set_option maxRecDepth 20000 in
theorem gX3_doThen_X1_add : GoodIn wsX3_doThen (wsV RX3 104 RX1 yX1_add wsX1_add) := goodIn_app (goodIn_of _ (by decide +kernel)) ggX3_doThen_X1_add
set_option maxRecDepth 20000 in
theorem ggX3_doThen_X2_drop : GoodIn wsX3_doThen wsX2_drop := goodIn_r _ [21, 9, 68, 69, 70] (by decide +kernel) (by decide +kernel)
set_option maxRecDepth 20000 in
theorem gX3_doThen_X2_drop : GoodIn wsX3_doThen (wsV RX3 60 RX2 yX2_drop wsX2_drop) := goodIn_app (goodIn_of _ (by decide +kernel)) ggX3_doThen_X2_drop
set_option maxRecDepth 20000 in
theorem ggX3_doThen_X2_wrap : GoodIn wsX3_doThen wsX2_wrap := goodIn_ca (goodIn_ca (goodIn_r _ [25, 9, 10, 26, 68, 69, 70] (by decide +kernel) (by decide +kernel)) (goodIn_sub (fun _ h => List.mem_cons_of_mem _ (List.mem_append_right _ h)) (by decide +kernel))) (goodIn_sub (fun _ h => List.mem_cons_of_mem _ (List.mem_append_left _ (List.mem_append_right _ h))) (by decide +kernel))
set_option maxRecDepth 20000 in
theorem gX3_doThen_X2_wrap : GoodIn wsX3_doThen (wsV RX3 125 RX2 yX2_wrap wsX2_wrap) := goodIn_app (goodIn_of _ (by decide +kernel)) ggX3_doThen_X2_wrap
set_option maxRecDepth 20000 in
theorem ggX3_doThen_X3_throwNew : GoodIn wsX3_doThen wsX3_throwNew := goodIn_ca (goodIn_ca (goodIn_r _ [31, 3, 18, 19, 20, 7, 21, 9, 22, 23, 24, 25, 10, 26, 62, 63, 64, 65, 68, 69, 70] (by decide +kernel) (by decide +kernel)) (goodIn_sub (fun _ h => List.mem_cons_of_mem _ (List.mem_append_left _ (List.mem_append_right _ h))) (by decide +kernel))) (goodIn_sub (fun _ h => List.mem_cons_of_mem _ (List.mem_append_right _ h)) (by decide +kernel))
set_option maxRecDepth 20000 in
theorem gX3_doThen_X3_throwNew : GoodIn wsX3_doThen (wsV RX3 129 RX3 yX3_throwNew wsX3_throwNew) := goodIn_app (goodIn_of _ (by decide +kernel)) ggX3_doThen_X3_throwNew
set_option maxRecDepth 20000 in
theorem ggX3_doThen_X3_goDown : GoodIn wsX3_doThen wsX3_goDown := goodIn_ca (goodIn_ca (goodIn_r _ [49, 1, 50, 51, 52, 30, 53, 54, 27, 28, 29, 31, 3, 18, 19, 20, 7, 21, 9, 22, 23, 24, 25, 10, 26, 55, 56, 57, 58, 2, 11, 12, 13, 14, 15, 16, 17, 59, 60, 61, 35, 32, 33, 34, 4, 5, 6, 8, 36, 37, 38, 39, 40, 41, 42, 43, 44, 45, 46, 47, 48, 0, 62, 63, 64, 65, 66, 67, 68, 69, 70, 71, 72, 73, 74] (by decide +kernel) (by decide +kernel)) (goodIn_sub (fun _ h => List.mem_cons_of_mem _ (List.mem_append_left _ (List.mem_append_right _ h))) (by decide +kernel))) (goodIn_sub (fun _ h => List.mem_cons_of_mem _ (List.mem_append_right _ h)) (by decide +kernel))
set_option maxRecDepth 20000 in
theorem gX3_doThen_X3_goDown : GoodIn wsX3_doThen (wsV RX3 107 RX3 yX3_goDown wsX3_goDown) := goodIn_app (goodIn_of _ (by decide +kernel)) ggX3_doThen_X3_goDown
theorem dX3_doThen_0 : decode cX3_doThen 0 = .ok (.aload_n 0, 1) := by decide +kernel
theorem dX3_doThen_1 : decode cX3_doThen 1 = .ok (.getfield 11, 3) := by decide +kernel
theorem dX3_doThen_4 : decode cX3_doThen 4 = .ok (.iload_n 1, 1) := by decide +kernel
theorem dX3_doThen_5 : decode cX3_doThen 5 = .ok (.aaload, 1) := by decide +kernel
theorem dX3_doThen_6 : decode cX3_doThen 6 = .ok (.getfield 41, 3) := by decide +kernel
theorem dX3_doThen_9 : decode cX3_doThen 9 = .ok (.istore_n 2, 1) := by decide +kernel
theorem dX3_doThen_10 : decode cX3_doThen 10 = .ok (.aload_n 0, 1) := by decide +kernel
theorem dX3_doThen_11 : decode cX3_doThen 11 = .ok (.getfield 18, 3) := by decide +kernel
theorem dX3_doThen_14 : decode cX3_doThen 14 = .ok (.bipush 100, 2) := by decide +kernel
theorem dX3_doThen_16 : decode cX3_doThen 16 = .ok (.aload_n 0, 1) := by decide +kernel
theorem dX3_doThen_17 : decode cX3_doThen 17 = .ok (.getfield 25, 3) := by decide +kernel
theorem dX3_doThen_20 : decode cX3_doThen 20 = .ok (.invokevirtual 67, 3) := by decide +kernel
theorem dX3_doThen_23 : decode cX3_doThen 23 = .ok (.imul, 1) := by decide +kernel
theorem dX3_doThen_24 : decode cX3_doThen 24 = .ok (.iload_n 1, 1) := by decide +kernel
theorem dX3_doThen_25 : decode cX3_doThen 25 = .ok (.iadd, 1) := by decide +kernel
theorem dX3_doThen_26 : decode cX3_doThen 26 = .ok (.invokevirtual 104, 3) := by decide +kernel
theorem dX3_doThen_29 : decode cX3_doThen 29 = .ok (.aload_n 0, 1) := by decide +kernel
theorem dX3_doThen_30 : decode cX3_doThen 30 = .ok (.getfield 11, 3) := by decide +kernel
theorem dX3_doThen_33 : decode cX3_doThen 33 = .ok (.iload_n 1, 1) := by decide +kernel
theorem dX3_doThen_34 : decode cX3_doThen 34 = .ok (.aaload, 1) := by decide +kernel
theorem dX3_doThen_35 : decode cX3_doThen 35 = .ok (.getfield 48, 3) := by decide +kernel
theorem dX3_doThen_38 : decode cX3_doThen 38 = .ok (.tableswitch 75 0 4 #[34, 44, 46, 57, 68], 34) := by decide +kernel
theorem dX3_doThen_72 : decode cX3_doThen 72 = .ok (.aload_n 0, 1) := by decide +kernel
theorem dX3_doThen_73 : decode cX3_doThen 73 = .ok (.getfield 25, 3) := by decide +kernel
theorem dX3_doThen_76 : decode cX3_doThen 76 = .ok (.invokevirtual 60, 3) := by decide +kernel
theorem dX3_doThen_79 : decode cX3_doThen 79 = .ok (.iload_n 2, 1) := by decide +kernel
theorem dX3_doThen_80 : decode cX3_doThen 80 = .ok (.i2l, 1) := by decide +kernel
theorem dX3_doThen_81 : decode cX3_doThen 81 = .ok (.lreturn, 1) := by decide +kernel
theorem dX3_doThen_82 : decode cX3_doThen 82 = .ok (.lconst 0, 1) := by decide +kernel
theorem dX3_doThen_83 : decode cX3_doThen 83 = .ok (.lreturn, 1) := by decide +kernel
theorem dX3_doThen_84 : decode cX3_doThen 84 = .ok (.aload_n 0, 1) := by decide +kernel
theorem dX3_doThen_85 : decode cX3_doThen 85 = .ok (.getfield 25, 3) := by decide +kernel
theorem dX3_doThen_88 : decode cX3_doThen 88 = .ok (.iconst 1, 1) := by decide +kernel
theorem dX3_doThen_89 : decode cX3_doThen 89 = .ok (.iload_n 2, 1) := by decide +kernel
theorem dX3_doThen_90 : decode cX3_doThen 90 = .ok (.invokevirtual 125, 3) := by decide +kernel
theorem dX3_doThen_93 : decode cX3_doThen 93 = .ok (.lconst 0, 1) := by decide +kernel
theorem dX3_doThen_94 : decode cX3_doThen 94 = .ok (.lreturn, 1) := by decide +kernel
theorem dX3_doThen_95 : decode cX3_doThen 95 = .ok (.aload_n 0, 1) := by decide +kernel
theorem dX3_doThen_96 : decode cX3_doThen 96 = .ok (.getfield 25, 3) := by decide +kernel
theorem dX3_doThen_99 : decode cX3_doThen 99 = .ok (.iconst 2, 1) := by decide +kernel
theorem dX3_doThen_100 : decode cX3_doThen 100 = .ok (.iload_n 2, 1) := by decide +kernel
theorem dX3_doThen_101 : decode cX3_doThen 101 = .ok (.invokevirtual 125, 3) := by decide +kernel
theorem dX3_doThen_104 : decode cX3_doThen 104 = .ok (.lconst 0, 1) := by decide +kernel
theorem dX3_doThen_105 : decode cX3_doThen 105 = .ok (.lreturn, 1) := by decide +kernel
theorem dX3_doThen_106 : decode cX3_doThen 106 = .ok (.aload_n 0, 1) := by decide +kernel
theorem dX3_doThen_107 : decode cX3_doThen 107 = .ok (.iconst 3, 1) := by decide +kernel
theorem dX3_doThen_108 : decode cX3_doThen 108 = .ok (.iconst 0, 1) := by decide +kernel
theorem dX3_doThen_109 : decode cX3_doThen 109 = .ok (.invokevirtual 129, 3) := by decide +kernel
theorem dX3_doThen_112 : decode cX3_doThen 112 = .ok (.lreturn, 1) := by decide +kernel
theorem dX3_doThen_113 : decode cX3_doThen 113 = .ok (.aload_n 0, 1) := by decide +kernel
theorem dX3_doThen_114 : decode cX3_doThen 114 = .ok (.getfield 25, 3) := by decide +kernel
theorem dX3_doThen_117 : decode cX3_doThen 117 = .ok (.invokevirtual 60, 3) := by decide +kernel
theorem dX3_doThen_120 : decode cX3_doThen 120 = .ok (.aload_n 0, 1) := by decide +kernel
theorem dX3_doThen_121 : decode cX3_doThen 121 = .ok (.iload_n 1, 1) := by decide +kernel
theorem dX3_doThen_122 : decode cX3_doThen 122 = .ok (.iconst 0, 1) := by decide +kernel
theorem dX3_doThen_123 : decode cX3_doThen 123 = .ok (.iload_n 2, 1) := by decide +kernel
theorem dX3_doThen_124 : decode cX3_doThen 124 = .ok (.invokevirtual 107, 3) := by decide +kernel
theorem dX3_doThen_127 : decode cX3_doThen 127 = .ok (.lreturn, 1) := by decide +kernel
set_option maxRecDepth 20000 in
theorem ggX3_doLast_X1_add : GoodIn wsX3_doLast wsX1_add := goodIn_ca (goodIn_ca (goodIn_r _ [8, 9, 10, 36, 37] (by decide +kernel) (by decide +kernel)) (goodIn_sub (fun _ h => List.mem_cons_of_mem _ (List.mem_append_left _ (List.mem_append_right _ h))) (by decide +kernel))) (goodIn_sub (fun _ h => List.mem_cons_of_mem _ (List.mem_append_right _ h)) (by decide +kernel))
set_option maxRecDepth 20000 in
theorem gX3_doLast_X1_add : GoodIn wsX3_doLast (wsV RX3 104 RX1 yX1_add wsX1_add) := goodIn_app (goodIn_of _ (by decide +kernel)) ggX3_doLast_X1_add
set_option maxRecDepth 20000 in
theorem ggX3_doLast_X2_drop : GoodIn wsX3_doLast wsX2_drop := goodIn_r _ [15, 16, 38, 39, 40] (by decide +kernel) (by decide +kernel)
set_option maxRecDepth 20000 in
theorem gX3_doLast_X2_drop : GoodIn wsX3_doLast (wsV RX3 60 RX2 yX2_drop wsX2_drop) := goodIn_app (goodIn_of _ (by decide +kernel)) ggX3_doLast_X2_drop
set_option maxRecDepth 20000 in
theorem ggX3_doLast_X3_throwNew : GoodIn wsX3_doLast wsX3_throwNew := goodIn_ca (goodIn_ca (goodIn_r _ [21, 3, 11, 12, 13, 14, 15, 16, 22, 23, 24, 25, 26, 27, 28, 29, 30, 31, 38, 39, 40] (by decide +kernel) (by decide +kernel)) (goodIn_sub (fun _ h => List.mem_cons_of_mem _ (List.mem_append_left _ (List.mem_append_right _ h))) (by decide +kernel))) (goodIn_sub (fun _ h => List.mem_cons_of_mem _ (List.mem_append_right _ h)) (by decide +kernel))
set_option maxRecDepth 20000 in
theorem gX3_doLast_X3_throwNew : GoodIn wsX3_doLast (wsV RX3 129 RX3 yX3_throwNew wsX3_throwNew) := goodIn_app (goodIn_of _ (by decide +kernel)) ggX3_doLast_X3_throwNew
theorem dX3_doLast_0 : decode cX3_doLast 0 = .ok (.aload_n 0, 1) := by decide +kernel
theorem dX3_doLast_1 : decode cX3_doLast 1 = .ok (.getfield 11, 3) := by decide +kernel
theorem dX3_doLast_4 : decode cX3_doLast 4 = .ok (.iload_n 1, 1) := by decide +kernel
theorem dX3_doLast_5 : decode cX3_doLast 5 = .ok (.aaload, 1) := by decide +kernel
theorem dX3_doLast_6 : decode cX3_doLast 6 = .ok (.getfield 41, 3) := by decide +kernel
theorem dX3_doLast_9 : decode cX3_doLast 9 = .ok (.istore 4, 2) := by decide +kernel
theorem dX3_doLast_11 : decode cX3_doLast 11 = .ok (.aload_n 0, 1) := by decide +kernel
theorem dX3_doLast_12 : decode cX3_doLast 12 = .ok (.getfield 18, 3) := by decide +kernel
theorem dX3_doLast_15 : decode cX3_doLast 15 = .ok (.sipush 600, 3) := by decide +kernel
theorem dX3_doLast_18 : decode cX3_doLast 18 = .ok (.iload_n 1, 1) := by decide +kernel
theorem dX3_doLast_19 : decode cX3_doLast 19 = .ok (.iadd, 1) := by decide +kernel
theorem dX3_doLast_20 : decode cX3_doLast 20 = .ok (.invokevirtual 104, 3) := by decide +kernel
theorem dX3_doLast_23 : decode cX3_doLast 23 = .ok (.aload_n 0, 1) := by decide +kernel
theorem dX3_doLast_24 : decode cX3_doLast 24 = .ok (.getfield 11, 3) := by decide +kernel
theorem dX3_doLast_27 : decode cX3_doLast 27 = .ok (.iload_n 1, 1) := by decide +kernel
theorem dX3_doLast_28 : decode cX3_doLast 28 = .ok (.aaload, 1) := by decide +kernel
theorem dX3_doLast_29 : decode cX3_doLast 29 = .ok (.getfield 51, 3) := by decide +kernel
theorem dX3_doLast_32 : decode cX3_doLast 32 = .ok (.tableswitch 54 1 3 #[28, 39, 47], 28) := by decide +kernel
theorem dX3_doLast_60 : decode cX3_doLast 60 = .ok (.aload_n 0, 1) := by decide +kernel
theorem dX3_doLast_61 : decode cX3_doLast 61 = .ok (.getfield 25, 3) := by decide +kernel
theorem dX3_doLast_64 : decode cX3_doLast 64 = .ok (.invokevirtual 60, 3) := by decide +kernel
theorem dX3_doLast_67 : decode cX3_doLast 67 = .ok (.iload 4, 2) := by decide +kernel
theorem dX3_doLast_69 : decode cX3_doLast 69 = .ok (.i2l, 1) := by decide +kernel
theorem dX3_doLast_70 : decode cX3_doLast 70 = .ok (.lreturn, 1) := by decide +kernel
theorem dX3_doLast_71 : decode cX3_doLast 71 = .ok (.aload_n 0, 1) := by decide +kernel
theorem dX3_doLast_72 : decode cX3_doLast 72 = .ok (.iconst 1, 1) := by decide +kernel
theorem dX3_doLast_73 : decode cX3_doLast 73 = .ok (.iload 4, 2) := by decide +kernel
theorem dX3_doLast_75 : decode cX3_doLast 75 = .ok (.invokevirtual 129, 3) := by decide +kernel
theorem dX3_doLast_78 : decode cX3_doLast 78 = .ok (.lreturn, 1) := by decide +kernel
theorem dX3_doLast_79 : decode cX3_doLast 79 = .ok (.aload_n 0, 1) := by decide +kernel
theorem dX3_doLast_80 : decode cX3_doLast 80 = .ok (.iconst 3, 1) := by decide +kernel
theorem dX3_doLast_81 : decode cX3_doLast 81 = .ok (.iconst 0, 1) := by decide +kernel
theorem dX3_doLast_82 : decode cX3_doLast 82 = .ok (.invokevirtual 129, 3) := by decide +kernel
theorem dX3_doLast_85 : decode cX3_doLast 85 = .ok (.lreturn, 1) := by decide +kernel
theorem dX3_doLast_86 : decode cX3_doLast 86 = .ok (.lload_n 2, 1) := by decide +kernel
theorem dX3_doLast_87 : decode cX3_doLast 87 = .ok (.lreturn, 1) := by decide +kernel
set_option maxRecDepth 20000 in
theorem ggX3_reachBottom_X3_throwNew : GoodIn wsX3_reachBottom wsX3_throwNew := goodIn_ca (goodIn_ca (goodIn_r _ [6, 7, 8, 9, 10, 11, 12, 13, 14, 15, 16, 17, 18, 19, 32, 33, 34, 35, 36, 37, 38] (by decide +kernel) (by decide +kernel)) (goodIn_sub (fun _ h => List.mem_cons_of_mem _ (List.mem_append_left _ (List.mem_append_right _ h))) (by decide +kernel))) (goodIn_sub (fun _ h => List.mem_cons_of_mem _ (List.mem_append_right _ h)) (by decide +kernel))
set_option maxRecDepth 20000 in
theorem gX3_reachBottom_X3_throwNew : GoodIn wsX3_reachBottom (wsV RX3 129 RX3 yX3_throwNew wsX3_throwNew) := goodIn_app (goodIn_of _ (by decide +kernel)) ggX3_reachBottom_X3_throwNew
set_option maxRecDepth 20000 in
theorem ggX3_reachBottom_X3_throwFromWithin : GoodIn wsX3_reachBottom wsX3_throwFromWithin := goodIn_ca (goodIn_ca (goodIn_r _ [23, 24, 25, 26, 27, 28, 29, 30, 31, 2, 3, 4, 5, 6, 7, 8, 9, 10, 11, 12, 13, 14, 15, 16, 17, 18, 19, 32, 33, 34, 35, 39, 40, 36, 37, 38] (by decide +kernel) (by decide +kernel)) (goodIn_sub (fun _ h => List.mem_cons_of_mem _ (List.mem_append_left _ (List.mem_append_right _ h))) (by decide +kernel))) (goodIn_sub (fun _ h => List.mem_cons_of_mem _ (List.mem_append_right _ h)) (by decide +kernel))
set_option maxRecDepth 20000 in
theorem gX3_reachBottom_X3_throwFromWithin : GoodIn wsX3_reachBottom (wsV RX3 134 RX3 yX3_throwFromWithin wsX3_throwFromWithin) := goodIn_app (goodIn_of _ (by decide +kernel)) ggX3_reachBottom_X3_throwFromWithin
theorem dX3_reachBottom_0 : decode cX3_reachBottom 0 = .ok (.iload_n 1, 1) := by decide +kernel
theorem dX3_reachBottom_1 : decode cX3_reachBottom 1 = .ok (.tableswitch 99 1 7 #[43, 50, 57, 64, 64, 71, 93], 43) := by decide +kernel
theorem dX3_reachBottom_44 : decode cX3_reachBottom 44 = .ok (.aload_n 0, 1) := by decide +kernel
theorem dX3_reachBottom_45 : decode cX3_reachBottom 45 = .ok (.iconst 1, 1) := by decide +kernel
theorem dX3_reachBottom_46 : decode cX3_reachBottom 46 = .ok (.iload_n 2, 1) := by decide +kernel
theorem dX3_reachBottom_47 : decode cX3_reachBottom 47 = .ok (.invokevirtual 129, 3) := by decide +kernel
theorem dX3_reachBottom_50 : decode cX3_reachBottom 50 = .ok (.lreturn, 1) := by decide +kernel
theorem dX3_reachBottom_51 : decode cX3_reachBottom 51 = .ok (.aload_n 0, 1) := by decide +kernel
theorem dX3_reachBottom_52 : decode cX3_reachBottom 52 = .ok (.iconst 2, 1) := by decide +kernel
theorem dX3_reachBottom_53 : decode cX3_reachBottom 53 = .ok (.iload_n 2, 1) := by decide +kernel
theorem dX3_reachBottom_54 : decode cX3_reachBottom 54 = .ok (.invokevirtual 129, 3) := by decide +kernel
theorem dX3_reachBottom_57 : decode cX3_reachBottom 57 = .ok (.lreturn, 1) := by decide +kernel
theorem dX3_reachBottom_58 : decode cX3_reachBottom 58 = .ok (.aload_n 0, 1) := by decide +kernel
theorem dX3_reachBottom_59 : decode cX3_reachBottom 59 = .ok (.iconst 3, 1) := by decide +kernel
theorem dX3_reachBottom_60 : decode cX3_reachBottom 60 = .ok (.iconst 0, 1) := by decide +kernel
theorem dX3_reachBottom_61 : decode cX3_reachBottom 61 = .ok (.invokevirtual 129, 3) := by decide +kernel
theorem dX3_reachBottom_64 : decode cX3_reachBottom 64 = .ok (.lreturn, 1) := by decide +kernel
theorem dX3_reachBottom_65 : decode cX3_reachBottom 65 = .ok (.aload_n 0, 1) := by decide +kernel
theorem dX3_reachBottom_66 : decode cX3_reachBottom 66 = .ok (.iconst 4, 1) := by decide +kernel
theorem dX3_reachBottom_67 : decode cX3_reachBottom 67 = .ok (.iconst 0, 1) := by decide +kernel
theorem dX3_reachBottom_68 : decode cX3_reachBottom 68 = .ok (.invokevirtual 129, 3) := by decide +kernel
theorem dX3_reachBottom_71 : decode cX3_reachBottom 71 = .ok (.lreturn, 1) := by decide +kernel
theorem dX3_reachBottom_72 : decode cX3_reachBottom 72 = .ok (.iload_n 2, 1) := by decide +kernel
theorem dX3_reachBottom_73 : decode cX3_reachBottom 73 = .ok (.ifCond .lt 14, 3) := by decide +kernel
theorem dX3_reachBottom_76 : decode cX3_reachBottom 76 = .ok (.iload_n 2, 1) := by decide +kernel
theorem dX3_reachBottom_77 : decode cX3_reachBottom 77 = .ok (.iconst 3, 1) := by decide +kernel
theorem dX3_reachBottom_78 : decode cX3_reachBottom 78 = .ok (.if_icmp .ge 9, 3) := by decide +kernel
theorem dX3_reachBottom_81 : decode cX3_reachBottom 81 = .ok (.ldc2_w 132, 3) := by decide +kernel
theorem dX3_reachBottom_84 : decode cX3_reachBottom 84 = .ok (.goto 9, 3) := by decide +kernel
theorem dX3_reachBottom_87 : decode cX3_reachBottom 87 = .ok (.aload_n 0, 1) := by decide +kernel
theorem dX3_reachBottom_88 : decode cX3_reachBottom 88 = .ok (.iconst 5, 1) := by decide +kernel
theorem dX3_reachBottom_89 : decode cX3_reachBottom 89 = .ok (.iconst 0, 1) := by decide +kernel
theorem dX3_reachBottom_90 : decode cX3_reachBottom 90 = .ok (.invokevirtual 129, 3) := by decide +kernel
theorem dX3_reachBottom_93 : decode cX3_reachBottom 93 = .ok (.lreturn, 1) := by decide +kernel
theorem dX3_reachBottom_94 : decode cX3_reachBottom 94 = .ok (.aload_n 0, 1) := by decide +kernel
theorem dX3_reachBottom_95 : decode cX3_reachBottom 95 = .ok (.iload_n 2, 1) := by decide +kernel
theorem dX3_reachBottom_96 : decode cX3_reachBottom 96 = .ok (.invokevirtual 134, 3) := by decide +kernel
theorem dX3_reachBottom_99 : decode cX3_reachBottom 99 = .ok (.lreturn, 1) := by decide +kernel
theorem dX3_reachBottom_100 : decode cX3_reachBottom 100 = .ok (.iload_n 2, 1) := by decide +kernel
theorem dX3_reachBottom_101 : decode cX3_reachBottom 101 = .ok (.i2l, 1) := by decide +kernel
theorem dX3_reachBottom_102 : decode cX3_reachBottom 102 = .ok (.lreturn, 1) := by decide +kernel
set_option maxRecDepth 20000 in
theorem ggX3_throwFromWithin_X1_add : GoodIn wsX3_throwFromWithin wsX1_add := goodIn_ca (goodIn_ca (goodIn_r _ [6, 7, 8, 31, 32] (by decide +kernel) (by decide +kernel)) (goodIn_sub (fun _ h => List.mem_cons_of_mem _ (List.mem_append_left _ (List.mem_append_right _ h))) (by decide +kernel))) (goodIn_sub (fun _ h => List.mem_cons_of_mem _ (List.mem_append_right _ h)) (by decide +kernel))
set_option maxRecDepth 20000 in
theorem gX3_throwFromWithin_X1_add : GoodIn wsX3_throwFromWithin (wsV RX3 104 RX1 yX1_add wsX1_add) := goodIn_app (goodIn_of _ (by decide +kernel)) ggX3_throwFromWithin_X1_add
set_option maxRecDepth 20000 in
theorem ggX3_throwFromWithin_X3_throwNew : GoodIn wsX3_throwFromWithin wsX3_throwNew := goodIn_ca (goodIn_ca (goodIn_r _ [13, 14, 15, 16, 17, 18, 19, 20, 21, 22, 23, 24, 25, 26, 27, 28, 29, 30, 33, 34, 35] (by decide +kernel) (by decide +kernel)) (goodIn_sub (fun _ h => List.mem_cons_of_mem _ (List.mem_append_left _ (List.mem_append_right _ h))) (by decide +kernel))) (goodIn_sub (fun _ h => List.mem_cons_of_mem _ (List.mem_append_right _ h)) (by decide +kernel))
set_option maxRecDepth 20000 in
theorem gX3_throwFromWithin_X3_throwNew : GoodIn wsX3_throwFromWithin (wsV RX3 129 RX3 yX3_throwNew wsX3_throwNew) := goodIn_app (goodIn_of _ (by decide +kernel)) ggX3_throwFromWithin_X3_throwNew
theorem dX3_throwFromWithin_0 : decode cX3_throwFromWithin 0 = .ok (.iconst 0, 1) := by decide +kernel
theorem dX3_throwFromWithin_1 : decode cX3_throwFromWithin 1 = .ok (.istore_n 2, 1) := by decide +kernel
theorem dX3_throwFromWithin_2 : decode cX3_throwFromWithin 2 = .ok (.iload_n 2, 1) := by decide +kernel
theorem dX3_throwFromWithin_3 : decode cX3_throwFromWithin 3 = .ok (.iconst 3, 1) := by decide +kernel
theorem dX3_throwFromWithin_4 : decode cX3_throwFromWithin 4 = .ok (.if_icmp .ge 24, 3) := by decide +kernel
theorem dX3_throwFromWithin_7 : decode cX3_throwFromWithin 7 = .ok (.aload_n 0, 1) := by decide +kernel
theorem dX3_throwFromWithin_8 : decode cX3_throwFromWithin 8 = .ok (.getfield 18, 3) := by decide +kernel
theorem dX3_throwFromWithin_11 : decode cX3_throwFromWithin 11 = .ok (.sipush 700, 3) := by decide +kernel
theorem dX3_throwFromWithin_14 : decode cX3_throwFromWithin 14 = .ok (.iload_n 1, 1) := by decide +kernel
theorem dX3_throwFromWithin_15 : decode cX3_throwFromWithin 15 = .ok (.bipush 100, 2) := by decide +kernel
theorem dX3_throwFromWithin_17 : decode cX3_throwFromWithin 17 = .ok (.irem, 1) := by decide +kernel
theorem dX3_throwFromWithin_18 : decode cX3_throwFromWithin 18 = .ok (.iadd, 1) := by decide +kernel
theorem dX3_throwFromWithin_19 : decode cX3_throwFromWithin 19 = .ok (.invokevirtual 104, 3) := by decide +kernel
theorem dX3_throwFromWithin_22 : decode cX3_throwFromWithin 22 = .ok (.iinc 2 1, 3) := by decide +kernel
theorem dX3_throwFromWithin_25 : decode cX3_throwFromWithin 25 = .ok (.goto (-23), 3) := by decide +kernel
theorem dX3_throwFromWithin_28 : decode cX3_throwFromWithin 28 = .ok (.aload_n 0, 1) := by decide +kernel
theorem dX3_throwFromWithin_29 : decode cX3_throwFromWithin 29 = .ok (.iconst 1, 1) := by decide +kernel
theorem dX3_throwFromWithin_30 : decode cX3_throwFromWithin 30 = .ok (.iload_n 1, 1) := by decide +kernel
theorem dX3_throwFromWithin_31 : decode cX3_throwFromWithin 31 = .ok (.invokevirtual 129, 3) := by decide +kernel
theorem dX3_throwFromWithin_34 : decode cX3_throwFromWithin 34 = .ok (.lreturn, 1) := by decide +kernel
set_option maxRecDepth 20000 in
theorem ggX3_throwNew_X2_drop : GoodIn wsX3_throwNew wsX2_drop := goodIn_r _ [6, 7, 18, 19, 20] (by decide +kernel) (by decide +kernel)
set_option maxRecDepth 20000 in
theorem gX3_throwNew_X2_drop : GoodIn wsX3_throwNew (wsV RX3 60 RX2 yX2_drop wsX2_drop) := goodIn_app (goodIn_of _ (by decide +kernel)) ggX3_throwNew_X2_drop
set_option maxRecDepth 20000 in
theorem ggX3_throwNew_X2_wrap : GoodIn wsX3_throwNew wsX2_wrap := goodIn_ca (goodIn_ca (goodIn_r _ [11, 7, 12, 13, 18, 19, 20] (by decide +kernel) (by decide +kernel)) (goodIn_sub (fun _ h => List.mem_cons_of_mem _ (List.mem_append_right _ h)) (by decide +kernel))) (goodIn_sub (fun _ h => List.mem_cons_of_mem _ (List.mem_append_left _ (List.mem_append_right _ h))) (by decide +kernel))
set_option maxRecDepth 20000 in
theorem gX3_throwNew_X2_wrap : GoodIn wsX3_throwNew (wsV RX3 125 RX2 yX2_wrap wsX2_wrap) := goodIn_app (goodIn_of _ (by decide +kernel)) ggX3_throwNew_X2_wrap
theorem dX3_throwNew_0 : decode cX3_throwNew 0 = .ok (.aload_n 0, 1) := by decide +kernel
theorem dX3_throwNew_1 : decode cX3_throwNew 1 = .ok (.getfield 25, 3) := by decide +kernel
theorem dX3_throwNew_4 : decode cX3_throwNew 4 = .ok (.invokevirtual 60, 3) := by decide +kernel
theorem dX3_throwNew_7 : decode cX3_throwNew 7 = .ok (.aload_n 0, 1) := by decide +kernel
theorem dX3_throwNew_8 : decode cX3_throwNew 8 = .ok (.getfield 25, 3) := by decide +kernel
theorem dX3_throwNew_11 : decode cX3_throwNew 11 = .ok (.iload_n 1, 1) := by decide +kernel
theorem dX3_throwNew_12 : decode cX3_throwNew 12 = .ok (.iload_n 2, 1) := by decide +kernel
theorem dX3_throwNew_13 : decode cX3_throwNew 13 = .ok (.invokevirtual 125, 3) := by decide +kernel
theorem dX3_throwNew_16 : decode cX3_throwNew 16 = .ok (.lconst 0, 1) := by decide +kernel
theorem dX3_throwNew_17 : decode cX3_throwNew 17 = .ok (.lreturn, 1) := by decide +kernel
theorem dX3_throwOut_0 : decode cX3_throwOut 0 = .ok (.iload_n 0, 1) := by decide +kernel
theorem dX3_throwOut_1 : decode cX3_throwOut 1 = .ok (.tableswitch 85 1 5 #[35, 45, 55, 65, 75], 35) := by decide +kernel
theorem dX3_throwOut_36 : decode cX3_throwOut 36 = .ok (.new 137, 3) := by decide +kernel
theorem dX3_throwOut_39 : decode cX3_throwOut 39 = .ok (.dup, 1) := by decide +kernel
theorem dX3_throwOut_40 : decode cX3_throwOut 40 = .ok (.ldc 139, 2) := by decide +kernel
theorem dX3_throwOut_42 : decode cX3_throwOut 42 = .ok (.invokespecial 141, 3) := by decide +kernel
theorem dX3_throwOut_45 : decode cX3_throwOut 45 = .ok (.athrow, 1) := by decide +kernel
theorem dX3_throwOut_46 : decode cX3_throwOut 46 = .ok (.new 142, 3) := by decide +kernel
theorem dX3_throwOut_49 : decode cX3_throwOut 49 = .ok (.dup, 1) := by decide +kernel
theorem dX3_throwOut_50 : decode cX3_throwOut 50 = .ok (.ldc 144, 2) := by decide +kernel
theorem dX3_throwOut_52 : decode cX3_throwOut 52 = .ok (.invokespecial 146, 3) := by decide +kernel
theorem dX3_throwOut_55 : decode cX3_throwOut 55 = .ok (.athrow, 1) := by decide +kernel
theorem dX3_throwOut_56 : decode cX3_throwOut 56 = .ok (.new 147, 3) := by decide +kernel
theorem dX3_throwOut_59 : decode cX3_throwOut 59 = .ok (.dup, 1) := by decide +kernel
theorem dX3_throwOut_60 : decode cX3_throwOut 60 = .ok (.ldc 149, 2) := by decide +kernel
theorem dX3_throwOut_62 : decode cX3_throwOut 62 = .ok (.invokespecial 151, 3) := by decide +kernel
theorem dX3_throwOut_65 : decode cX3_throwOut 65 = .ok (.athrow, 1) := by decide +kernel
theorem dX3_throwOut_66 : decode cX3_throwOut 66 = .ok (.new 99, 3) := by decide +kernel
theorem dX3_throwOut_69 : decode cX3_throwOut 69 = .ok (.dup, 1) := by decide +kernel
theorem dX3_throwOut_70 : decode cX3_throwOut 70 = .ok (.ldc 152, 2) := by decide +kernel
theorem dX3_throwOut_72 : decode cX3_throwOut 72 = .ok (.invokespecial 103, 3) := by decide +kernel
theorem dX3_throwOut_75 : decode cX3_throwOut 75 = .ok (.athrow, 1) := by decide +kernel
theorem dX3_throwOut_76 : decode cX3_throwOut 76 = .ok (.new 34, 3) := by decide +kernel
theorem dX3_throwOut_79 : decode cX3_throwOut 79 = .ok (.dup, 1) := by decide +kernel
theorem dX3_throwOut_80 : decode cX3_throwOut 80 = .ok (.ldc 154, 2) := by decide +kernel
theorem dX3_throwOut_82 : decode cX3_throwOut 82 = .ok (.invokespecial 38, 3) := by decide +kernel
theorem dX3_throwOut_85 : decode cX3_throwOut 85 = .ok (.athrow, 1) := by decide +kernel
theorem dX3_throwOut_86 : decode cX3_throwOut 86 = .ok (.return_, 1) := by decide +kernel
theorem dJx00060_init_a7421_0 : decode cJx00060_init_a7421 0 = .ok (.aload_n 0, 1) := by decide +kernel
theorem dJx00060_init_a7421_1 : decode cJx00060_init_a7421 1 = .ok (.aload_n 1, 1) := by decide +kernel
theorem dJx00060_init_a7421_2 : decode cJx00060_init_a7421 2 = .ok (.invokespecial 7, 3) := by decide +kernel
theorem dJx00060_init_a7421_5 : decode cJx00060_init_a7421 5 = .ok (.return_, 1) := by decide +kernel
theorem dJ9_min_7cf53_0 : decode cJ9_min_7cf53 0 = .ok (.iload_n 0, 1) := by decide +kernel
theorem dJ9_min_7cf53_1 : decode cJ9_min_7cf53 1 = .ok (.iload_n 1, 1) := by decide +kernel
theorem dJ9_min_7cf53_2 : decode cJ9_min_7cf53 2 = .ok (.if_icmp .gt 7, 3) := by decide +kernel
theorem dJ9_min_7cf53_5 : decode cJ9_min_7cf53 5 = .ok (.iload_n 0, 1) := by decide +kernel
theorem dJ9_min_7cf53_6 : decode cJ9_min_7cf53 6 = .ok (.goto 4, 3) := by decide +kernel
theorem dJ9_min_7cf53_9 : decode cJ9_min_7cf53 9 = .ok (.iload_n 1, 1) := by decide +kernel
theorem dJ9_min_7cf53_10 : decode cJ9_min_7cf53 10 = .ok (.ireturn, 1) := by decide +kernel
theorem dJx5d777_init_da8c8_0 : decode cJx5d777_init_da8c8 0 = .ok (.aload_n 0, 1) := by decide +kernel
theorem dJx5d777_init_da8c8_1 : decode cJx5d777_init_da8c8 1 = .ok (.invokespecial 1, 3) := by decide +kernel
theorem dJx5d777_init_da8c8_4 : decode cJx5d777_init_da8c8 4 = .ok (.return_, 1) := by decide +kernel
theorem dJx5d777_init_a7421_0 : decode cJx5d777_init_a7421 0 = .ok (.aload_n 0, 1) := by decide +kernel
theorem dJx5d777_init_a7421_1 : decode cJx5d777_init_a7421 1 = .ok (.aload_n 1, 1) := by decide +kernel
theorem dJx5d777_init_a7421_2 : decode cJx5d777_init_a7421 2 = .ok (.invokespecial 7, 3) := by decide +kernel
theorem dJx5d777_init_a7421_5 : decode cJx5d777_init_a7421 5 = .ok (.return_, 1) := by decide +kernel
theorem dJx5d777_fillInStackTrace_cddbd_0 : decode cJx5d777_fillInStackTrace_cddbd 0 = .ok (.aload_n 0, 1) := by decide +kernel
theorem dJx5d777_fillInStackTrace_cddbd_1 : decode cJx5d777_fillInStackTrace_cddbd 1 = .ok (.getfield 10, 3) := by decide +kernel
theorem dJx5d777_fillInStackTrace_cddbd_4 : decode cJx5d777_fillInStackTrace_cddbd 4 = .ok (.ifCond .ne 11, 3) := by decide +kernel
theorem dJx5d777_fillInStackTrace_cddbd_7 : decode cJx5d777_fillInStackTrace_cddbd 7 = .ok (.aload_n 0, 1) := by decide +kernel
theorem dJx5d777_fillInStackTrace_cddbd_8 : decode cJx5d777_fillInStackTrace_cddbd 8 = .ok (.iconst 1, 1) := by decide +kernel
theorem dJx5d777_fillInStackTrace_cddbd_9 : decode cJx5d777_fillInStackTrace_cddbd 9 = .ok (.putfield 10, 3) := by decide +kernel
theorem dJx5d777_fillInStackTrace_cddbd_12 : decode cJx5d777_fillInStackTrace_cddbd 12 = .ok (.goto 24, 3) := by decide +kernel
theorem dJx5d777_fillInStackTrace_cddbd_15 : decode cJx5d777_fillInStackTrace_cddbd 15 = .ok (.aload_n 0, 1) := by decide +kernel
theorem dJx5d777_fillInStackTrace_cddbd_16 : decode cJx5d777_fillInStackTrace_cddbd 16 = .ok (.getfield 10, 3) := by decide +kernel
theorem dJx5d777_fillInStackTrace_cddbd_19 : decode cJx5d777_fillInStackTrace_cddbd 19 = .ok (.iconst 1, 1) := by decide +kernel
theorem dJx5d777_fillInStackTrace_cddbd_20 : decode cJx5d777_fillInStackTrace_cddbd 20 = .ok (.if_icmp .ne 16, 3) := by decide +kernel
theorem dJx5d777_fillInStackTrace_cddbd_23 : decode cJx5d777_fillInStackTrace_cddbd 23 = .ok (.aload_n 0, 1) := by decide +kernel
theorem dJx5d777_fillInStackTrace_cddbd_24 : decode cJx5d777_fillInStackTrace_cddbd 24 = .ok (.aload_n 0, 1) := by decide +kernel
theorem dJx5d777_fillInStackTrace_cddbd_25 : decode cJx5d777_fillInStackTrace_cddbd 25 = .ok (.invokevirtual 16, 3) := by decide +kernel
theorem dJx5d777_fillInStackTrace_cddbd_28 : decode cJx5d777_fillInStackTrace_cddbd 28 = .ok (.putfield 20, 3) := by decide +kernel
theorem dJx5d777_fillInStackTrace_cddbd_31 : decode cJx5d777_fillInStackTrace_cddbd 31 = .ok (.aload_n 0, 1) := by decide +kernel
theorem dJx5d777_fillInStackTrace_cddbd_32 : decode cJx5d777_fillInStackTrace_cddbd 32 = .ok (.iconst 2, 1) := by decide +kernel
theorem dJx5d777_fillInStackTrace_cddbd_33 : decode cJx5d777_fillInStackTrace_cddbd 33 = .ok (.putfield 10, 3) := by decide +kernel
theorem dJx5d777_fillInStackTrace_cddbd_36 : decode cJx5d777_fillInStackTrace_cddbd 36 = .ok (.aload_n 0, 1) := by decide +kernel
theorem dJx5d777_fillInStackTrace_cddbd_37 : decode cJx5d777_fillInStackTrace_cddbd 37 = .ok (.invokespecial 24, 3) := by decide +kernel
theorem dJx5d777_fillInStackTrace_cddbd_40 : decode cJx5d777_fillInStackTrace_cddbd 40 = .ok (.areturn, 1) := by decide +kernel
set_option maxRecDepth 20000 in
theorem ggL_set_X3_set : GoodIn wsL_set wsX3_set := goodIn_ca (goodIn_r _ [7, 8, 9, 10, 11, 12, 13, 6, 14, 15, 16, 17, 18, 19, 20, 21, 22, 23, 24, 25, 26, 27, 28] (by decide +kernel) (by decide +kernel)) (goodIn_sub (fun _ h => List.mem_cons_of_mem _ (List.mem_append_right _ h)) (by decide +kernel))
set_option maxRecDepth 20000 in
theorem gL_set_X3_set : GoodIn wsL_set (wsV RL 7 RX3 yX3_set wsX3_set) := goodIn_app (goodIn_of _ (by decide +kernel)) ggL_set_X3_set
theorem dL_set_0 : decode cL_set 0 = .ok (.aload_n 0, 1) := by decide +kernel
theorem dL_set_1 : decode cL_set 1 = .ok (.iload_n 1, 1) := by decide +kernel
theorem dL_set_2 : decode cL_set 2 = .ok (.iload_n 2, 1) := by decide +kernel
theorem dL_set_3 : decode cL_set 3 = .ok (.iload_n 3, 1) := by decide +kernel
theorem dL_set_4 : decode cL_set 4 = .ok (.iload 4, 2) := by decide +kernel
theorem dL_set_6 : decode cL_set 6 = .ok (.iload 5, 2) := by decide +kernel
theorem dL_set_8 : decode cL_set 8 = .ok (.invokevirtual 7, 3) := by decide +kernel
theorem dL_set_11 : decode cL_set 11 = .ok (.ireturn, 1) := by decide +kernel
theorem dL_set_12 : decode cL_set 12 = .ok (.astore 6, 2) := by decide +kernel
theorem dL_set_14 : decode cL_set 14 = .ok (.ldc 15, 2) := by decide +kernel
theorem dL_set_16 : decode cL_set 16 = .ok (.ireturn, 1) := by decide +kernel
set_option maxRecDepth 20000 in
theorem ggL_run_X3_run : GoodIn wsL_run wsX3_run := goodIn_ca (goodIn_ca (goodIn_ca (goodIn_ca (goodIn_ca (goodIn_r _ [15, 16, 17, 18, 19, 20, 21, 22, 23, 14, 24, 25, 26, 27, 28, 29, 30, 31, 32, 33, 34, 35, 36, 37, 38, 39, 40, 41, 42, 43, 44, 45, 46, 47, 48, 49, 50, 51, 52, 53, 54, 55, 56, 57, 58, 59, 60, 61, 62, 63, 64, 65, 66, 67, 68, 69, 70, 71, 72, 73, 74, 75, 76, 77, 78, 79, 80, 81, 82, 83, 84, 85, 86, 87, 88, 89, 90, 91, 92, 93, 94, 95, 96, 97, 98, 99, 100, 101, 102, 103, 104, 105, 106, 107, 108, 109, 110, 111, 112, 113, 114, 115, 116, 117, 118, 119, 120, 121, 122, 123, 124, 125, 126] (by decide +kernel) (by decide +kernel)) (goodIn_sub (fun _ h => List.mem_cons_of_mem _ (List.mem_append_left _ (List.mem_append_left _ (List.mem_append_left _ (List.mem_append_left _ (List.mem_append_right _ h)))))) (by decide +kernel))) (goodIn_sub (fun _ h => List.mem_cons_of_mem _ (List.mem_append_left _ (List.mem_append_left _ (List.mem_append_left _ (List.mem_append_right _ h))))) (by decide +kernel))) (goodIn_sub (fun _ h => List.mem_cons_of_mem _ (List.mem_append_left _ (List.mem_append_left _ (List.mem_append_right _ h)))) (by decide +kernel))) (goodIn_sub (fun _ h => List.mem_cons_of_mem _ (List.mem_append_left _ (List.mem_append_right _ h))) (by decide +kernel))) (goodIn_sub (fun _ h => List.mem_cons_of_mem _ (List.mem_append_right _ h)) (by decide +kernel))
set_option maxRecDepth 20000 in
theorem gL_run_X3_run : GoodIn wsL_run (wsV RL 16 RX3 yX3_run wsX3_run) := goodIn_app (goodIn_of _ (by decide +kernel)) ggL_run_X3_run
theorem dL_run_0 : decode cL_run 0 = .ok (.aload_n 0, 1) := by decide +kernel
theorem dL_run_1 : decode cL_run 1 = .ok (.iload_n 1, 1) := by decide +kernel
theorem dL_run_2 : decode cL_run 2 = .ok (.iload_n 2, 1) := by decide +kernel
theorem dL_run_3 : decode cL_run 3 = .ok (.iload_n 3, 1) := by decide +kernel
theorem dL_run_4 : decode cL_run 4 = .ok (.invokevirtual 16, 3) := by decide +kernel
theorem dL_run_7 : decode cL_run 7 = .ok (.lreturn, 1) := by decide +kernel
theorem dL_run_8 : decode cL_run 8 = .ok (.astore 4, 2) := by decide +kernel
theorem dL_run_10 : decode cL_run 10 = .ok (.ldc2_w 22, 3) := by decide +kernel
theorem dL_run_13 : decode cL_run 13 = .ok (.lreturn, 1) := by decide +kernel
theorem dL_run_14 : decode cL_run 14 = .ok (.astore 4, 2) := by decide +kernel
theorem dL_run_16 : decode cL_run 16 = .ok (.ldc2_w 26, 3) := by decide +kernel
theorem dL_run_19 : decode cL_run 19 = .ok (.lreturn, 1) := by decide +kernel
theorem dL_run_20 : decode cL_run 20 = .ok (.astore 4, 2) := by decide +kernel
theorem dL_run_22 : decode cL_run 22 = .ok (.ldc2_w 30, 3) := by decide +kernel
theorem dL_run_25 : decode cL_run 25 = .ok (.lreturn, 1) := by decide +kernel
theorem dL_run_26 : decode cL_run 26 = .ok (.astore 4, 2) := by decide +kernel
theorem dL_run_28 : decode cL_run 28 = .ok (.ldc2_w 34, 3) := by decide +kernel
theorem dL_run_31 : decode cL_run 31 = .ok (.lreturn, 1) := by decide +kernel
theorem dL_run_32 : decode cL_run 32 = .ok (.astore 4, 2) := by decide +kernel
theorem dL_run_34 : decode cL_run 34 = .ok (.ldc2_w 36, 3) := by decide +kernel
theorem dL_run_37 : decode cL_run 37 = .ok (.lreturn, 1) := by decide +kernel
set_option maxRecDepth 20000 in
theorem ggL_note_X3_note : GoodIn wsL_note wsX3_note := goodIn_ca (goodIn_ca (goodIn_r _ [7, 8, 9, 10, 11, 12, 13, 14, 15, 16, 17, 18, 19, 20, 21, 22, 23, 24, 25, 26, 27, 28, 29, 30, 31, 32, 33, 34] (by decide +kernel) (by decide +kernel)) (goodIn_sub (fun _ h => List.mem_cons_of_mem _ (List.mem_append_left _ (List.mem_append_right _ h))) (by decide +kernel))) (goodIn_sub (fun _ h => List.mem_cons_of_mem _ (List.mem_append_right _ h)) (by decide +kernel))
set_option maxRecDepth 20000 in
theorem gL_note_X3_note : GoodIn wsL_note (wsV RL 38 RX3 yX3_note wsX3_note) := goodIn_app (goodIn_of _ (by decide +kernel)) ggL_note_X3_note
theorem dL_note_0 : decode cL_note 0 = .ok (.aload_n 0, 1) := by decide +kernel
theorem dL_note_1 : decode cL_note 1 = .ok (.iload_n 1, 1) := by decide +kernel
theorem dL_note_2 : decode cL_note 2 = .ok (.invokevirtual 38, 3) := by decide +kernel
theorem dL_note_5 : decode cL_note 5 = .ok (.ireturn, 1) := by decide +kernel
theorem dL_note_6 : decode cL_note 6 = .ok (.astore_n 2, 1) := by decide +kernel
theorem dL_note_7 : decode cL_note 7 = .ok (.ldc 15, 2) := by decide +kernel
theorem dL_note_9 : decode cL_note 9 = .ok (.ireturn, 1) := by decide +kernel
set_option maxRecDepth 20000 in
theorem ggL_count_X3_count : GoodIn wsL_count wsX3_count := goodIn_ca (goodIn_ca (goodIn_r _ [7, 8, 9, 10, 11, 12, 13, 14, 15, 16, 17, 18, 19, 20, 21, 22, 23, 24, 25, 26, 27, 28, 29, 30, 31, 32, 33, 34, 35, 36, 37, 38, 39, 40, 41, 42, 43, 44, 45, 46, 47, 48, 49, 50, 51, 52, 53, 54, 55] (by decide +kernel) (by decide +kernel)) (goodIn_sub (fun _ h => List.mem_cons_of_mem _ (List.mem_append_left _ (List.mem_append_right _ h))) (by decide +kernel))) (goodIn_sub (fun _ h => List.mem_cons_of_mem _ (List.mem_append_right _ h)) (by decide +kernel))
set_option maxRecDepth 20000 in
theorem gL_count_X3_count : GoodIn wsL_count (wsV RL 42 RX3 yX3_count wsX3_count) := goodIn_app (goodIn_of _ (by decide +kernel)) ggL_count_X3_count
theorem dL_count_0 : decode cL_count 0 = .ok (.aload_n 0, 1) := by decide +kernel
theorem dL_count_1 : decode cL_count 1 = .ok (.iload_n 1, 1) := by decide +kernel
theorem dL_count_2 : decode cL_count 2 = .ok (.invokevirtual 42, 3) := by decide +kernel
theorem dL_count_5 : decode cL_count 5 = .ok (.ireturn, 1) := by decide +kernel
theorem dL_count_6 : decode cL_count 6 = .ok (.astore_n 2, 1) := by decide +kernel
theorem dL_count_7 : decode cL_count 7 = .ok (.ldc 15, 2) := by decide +kernel
theorem dL_count_9 : decode cL_count 9 = .ok (.ireturn, 1) := by decide +kernel
set_option maxRecDepth 20000 in
theorem ggL_law_X3_init : GoodIn wsL_law wsX3_init := goodIn_r _ [7, 8, 9, 10, 11, 12, 13, 14, 15, 16, 17, 18, 19, 20, 21, 22, 23, 24, 25, 3, 26, 27, 28, 29, 30, 31, 32, 33, 34, 174, 175, 176, 177, 178, 179, 180, 181, 182, 183, 184, 185, 186] (by decide +kernel) (by decide +kernel)
set_option maxRecDepth 20000 in
theorem gL_law_X3_init : GoodIn wsL_law (wsX3_init) := ggL_law_X3_init
set_option maxRecDepth 20000 in
theorem ggL_law_L_set : GoodIn wsL_law wsL_set := goodIn_ca (goodIn_r _ [38, 39, 4, 40, 41, 42, 2, 43, 44, 45, 46, 12, 47, 48, 49, 187, 188, 189, 190, 191, 192, 174, 175, 176, 177, 183, 184, 185, 186] (by decide +kernel) (by decide +kernel)) (goodIn_sub (fun _ h => List.mem_append_left _ (List.mem_append_left _ (List.mem_append_left _ (List.mem_append_left _ (List.mem_append_right _ h))))) (by decide +kernel))
set_option maxRecDepth 20000 in
theorem gL_law_L_set : GoodIn wsL_law (va_wsS RL 46 yL_set wsL_set) := goodIn_app (goodIn_of _ (by decide +kernel)) ggL_law_L_set
set_option maxRecDepth 20000 in
theorem ggL_law_L_run : GoodIn wsL_law wsL_run := goodIn_ca (goodIn_ca (goodIn_ca (goodIn_ca (goodIn_ca (goodIn_r _ [52, 53, 54, 55, 56, 39, 57, 58, 59, 60, 61, 62, 63, 64, 2, 65, 44, 45, 46, 66, 16, 20, 47, 48, 49, 67, 68, 69, 15, 70, 71, 72, 73, 74, 19, 75, 76, 77, 78, 79, 80, 12, 81, 82, 83, 84, 26, 85, 86, 87, 88, 89, 90, 91, 30, 92, 93, 94, 22, 95, 96, 97, 98, 99, 100, 101, 102, 103, 104, 105, 106, 107, 108, 109, 110, 111, 31, 112, 113, 114, 115, 116, 117, 118, 119, 120, 121, 122, 123, 124, 125, 126, 127, 128, 129, 130, 131, 132, 133, 134, 187, 188, 189, 190, 191, 192, 174, 175, 176, 177, 178, 179, 180, 181, 182, 183, 184, 185, 186, 193, 194, 195, 196, 197, 198, 199, 200] (by decide +kernel) (by decide +kernel)) (goodIn_sub (fun _ h => List.mem_append_left _ (List.mem_append_left _ (List.mem_append_left _ (List.mem_append_left _ (List.mem_append_right _ h))))) (by decide +kernel))) (goodIn_sub (fun _ h => List.mem_append_left _ (List.mem_append_left _ (List.mem_append_left _ (List.mem_append_right _ h)))) (by decide +kernel))) (goodIn_sub (fun _ h => List.mem_append_left _ (List.mem_append_left _ (List.mem_append_right _ h))) (by decide +kernel))) (goodIn_sub (fun _ h => List.mem_append_left _ (List.mem_append_right _ h)) (by decide +kernel))) (goodIn_sub (fun _ h => List.mem_append_right _ h) (by decide +kernel))
set_option maxRecDepth 20000 in
theorem gL_law_L_run : GoodIn wsL_law (va_wsS RL 51 yL_run wsL_run) := goodIn_app (goodIn_of _ (by decide +kernel)) ggL_law_L_run
set_option maxRecDepth 20000 in
theorem ggL_law_L_count : GoodIn wsL_law wsL_count := goodIn_ca (goodIn_ca (goodIn_r _ [137, 56, 4, 138, 139, 140, 2, 141, 16, 66, 20, 132, 133, 134, 88, 89, 90, 19, 91, 76, 30, 142, 143, 144, 145, 31, 146, 147, 148, 149, 150, 151, 152, 153, 154, 155, 156, 157, 158, 174, 175, 176, 177, 178, 179, 193, 194, 195, 196, 197, 198, 199, 200, 180, 181, 182] (by decide +kernel) (by decide +kernel)) (goodIn_sub (fun _ h => List.mem_append_left _ (List.mem_append_left _ (List.mem_append_left _ (List.mem_append_left _ (List.mem_append_right _ h))))) (by decide +kernel))) (goodIn_sub (fun _ h => List.mem_append_left _ (List.mem_append_left _ (List.mem_append_left _ (List.mem_append_right _ h)))) (by decide +kernel))
set_option maxRecDepth 20000 in
theorem gL_law_L_count : GoodIn wsL_law (va_wsS RL 54 yL_count wsL_count) := goodIn_app (goodIn_of _ (by decide +kernel)) ggL_law_L_count
set_option maxRecDepth 20000 in
theorem ggL_law_L_note : GoodIn wsL_law wsL_note := goodIn_ca (goodIn_ca (goodIn_r _ [161, 39, 4, 162, 163, 164, 2, 165, 16, 44, 45, 46, 166, 167, 168, 15, 169, 71, 26, 170, 171, 172, 173, 174, 175, 176, 177, 187, 188, 189, 190, 191, 192, 178, 179] (by decide +kernel) (by decide +kernel)) (goodIn_sub (fun _ h => List.mem_append_left _ (List.mem_append_left _ (List.mem_append_left _ (List.mem_append_left _ (List.mem_append_right _ h))))) (by decide +kernel))) (goodIn_sub (fun _ h => List.mem_append_left _ (List.mem_append_left _ (List.mem_append_left _ (List.mem_append_right _ h)))) (by decide +kernel))
set_option maxRecDepth 20000 in
theorem gL_law_L_note : GoodIn wsL_law (va_wsS RL 57 yL_note wsL_note) := goodIn_app (goodIn_of _ (by decide +kernel)) ggL_law_L_note
theorem dL_law_0 : decode cL_law 0 = .ok (.new 8, 3) := by decide +kernel
theorem dL_law_3 : decode cL_law 3 = .ok (.dup, 1) := by decide +kernel
theorem dL_law_4 : decode cL_law 4 = .ok (.invokespecial 45, 3) := by decide +kernel
theorem dL_law_7 : decode cL_law 7 = .ok (.astore_n 1, 1) := by decide +kernel
theorem dL_law_8 : decode cL_law 8 = .ok (.iconst 0, 1) := by decide +kernel
theorem dL_law_9 : decode cL_law 9 = .ok (.istore_n 2, 1) := by decide +kernel
theorem dL_law_10 : decode cL_law 10 = .ok (.iload_n 2, 1) := by decide +kernel
theorem dL_law_11 : decode cL_law 11 = .ok (.iconst 4, 1) := by decide +kernel
theorem dL_law_12 : decode cL_law 12 = .ok (.iadd, 1) := by decide +kernel
theorem dL_law_13 : decode cL_law 13 = .ok (.aload_n 0, 1) := by decide +kernel
theorem dL_law_14 : decode cL_law 14 = .ok (.arraylength, 1) := by decide +kernel
theorem dL_law_15 : decode cL_law 15 = .ok (.if_icmp .gt 51, 3) := by decide +kernel
theorem dL_law_18 : decode cL_law 18 = .ok (.iload_n 2, 1) := by decide +kernel
theorem dL_law_19 : decode cL_law 19 = .ok (.bipush 24, 2) := by decide +kernel
theorem dL_law_21 : decode cL_law 21 = .ok (.if_icmp .ge 45, 3) := by decide +kernel
theorem dL_law_24 : decode cL_law 24 = .ok (.aload_n 1, 1) := by decide +kernel
theorem dL_law_25 : decode cL_law 25 = .ok (.iload_n 2, 1) := by decide +kernel
theorem dL_law_26 : decode cL_law 26 = .ok (.iconst 4, 1) := by decide +kernel
theorem dL_law_27 : decode cL_law 27 = .ok (.idiv, 1) := by decide +kernel
theorem dL_law_28 : decode cL_law 28 = .ok (.aload_n 0, 1) := by decide +kernel
theorem dL_law_29 : decode cL_law 29 = .ok (.iload_n 2, 1) := by decide +kernel
theorem dL_law_30 : decode cL_law 30 = .ok (.iaload, 1) := by decide +kernel
theorem dL_law_31 : decode cL_law 31 = .ok (.aload_n 0, 1) := by decide +kernel
theorem dL_law_32 : decode cL_law 32 = .ok (.iload_n 2, 1) := by decide +kernel
theorem dL_law_33 : decode cL_law 33 = .ok (.iconst 1, 1) := by decide +kernel
theorem dL_law_34 : decode cL_law 34 = .ok (.iadd, 1) := by decide +kernel
theorem dL_law_35 : decode cL_law 35 = .ok (.iaload, 1) := by decide +kernel
theorem dL_law_36 : decode cL_law 36 = .ok (.bipush 7, 2) := by decide +kernel
theorem dL_law_38 : decode cL_law 38 = .ok (.iand, 1) := by decide +kernel
theorem dL_law_39 : decode cL_law 39 = .ok (.iconst 1, 1) := by decide +kernel
theorem dL_law_40 : decode cL_law 40 = .ok (.isub, 1) := by decide +kernel
theorem dL_law_41 : decode cL_law 41 = .ok (.aload_n 0, 1) := by decide +kernel
theorem dL_law_42 : decode cL_law 42 = .ok (.iload_n 2, 1) := by decide +kernel
theorem dL_law_43 : decode cL_law 43 = .ok (.iconst 2, 1) := by decide +kernel
theorem dL_law_44 : decode cL_law 44 = .ok (.iadd, 1) := by decide +kernel
theorem dL_law_45 : decode cL_law 45 = .ok (.iaload, 1) := by decide +kernel
theorem dL_law_46 : decode cL_law 46 = .ok (.bipush 7, 2) := by decide +kernel
theorem dL_law_48 : decode cL_law 48 = .ok (.iand, 1) := by decide +kernel
theorem dL_law_49 : decode cL_law 49 = .ok (.iconst 1, 1) := by decide +kernel
theorem dL_law_50 : decode cL_law 50 = .ok (.isub, 1) := by decide +kernel
theorem dL_law_51 : decode cL_law 51 = .ok (.aload_n 0, 1) := by decide +kernel
theorem dL_law_52 : decode cL_law 52 = .ok (.iload_n 2, 1) := by decide +kernel
theorem dL_law_53 : decode cL_law 53 = .ok (.iconst 3, 1) := by decide +kernel
theorem dL_law_54 : decode cL_law 54 = .ok (.iadd, 1) := by decide +kernel
theorem dL_law_55 : decode cL_law 55 = .ok (.iaload, 1) := by decide +kernel
theorem dL_law_56 : decode cL_law 56 = .ok (.invokestatic 46, 3) := by decide +kernel
theorem dL_law_59 : decode cL_law 59 = .ok (.pop, 1) := by decide +kernel
theorem dL_law_60 : decode cL_law 60 = .ok (.iinc 2 4, 3) := by decide +kernel
theorem dL_law_63 : decode cL_law 63 = .ok (.goto (-53), 3) := by decide +kernel
theorem dL_law_66 : decode cL_law 66 = .ok (.bipush 64, 2) := by decide +kernel
theorem dL_law_68 : decode cL_law 68 = .ok (.newarray .int, 2) := by decide +kernel
theorem dL_law_70 : decode cL_law 70 = .ok (.astore_n 2, 1) := by decide +kernel
theorem dL_law_71 : decode cL_law 71 = .ok (.iconst 0, 1) := by decide +kernel
theorem dL_law_72 : decode cL_law 72 = .ok (.istore_n 3, 1) := by decide +kernel
theorem dL_law_73 : decode cL_law 73 = .ok (.iload_n 3, 1) := by decide +kernel
theorem dL_law_74 : decode cL_law 74 = .ok (.aload_n 0, 1) := by decide +kernel
theorem dL_law_75 : decode cL_law 75 = .ok (.arraylength, 1) := by decide +kernel
theorem dL_law_76 : decode cL_law 76 = .ok (.if_icmp .ge 272, 3) := by decide +kernel
theorem dL_law_79 : decode cL_law 79 = .ok (.iload_n 3, 1) := by decide +kernel
theorem dL_law_80 : decode cL_law 80 = .ok (.bipush 40, 2) := by decide +kernel
theorem dL_law_82 : decode cL_law 82 = .ok (.if_icmp .ge 266, 3) := by decide +kernel
theorem dL_law_85 : decode cL_law 85 = .ok (.aload_n 0, 1) := by decide +kernel
theorem dL_law_86 : decode cL_law 86 = .ok (.iload_n 3, 1) := by decide +kernel
theorem dL_law_87 : decode cL_law 87 = .ok (.iaload, 1) := by decide +kernel
theorem dL_law_88 : decode cL_law 88 = .ok (.bipush 15, 2) := by decide +kernel
theorem dL_law_90 : decode cL_law 90 = .ok (.iand, 1) := by decide +kernel
theorem dL_law_91 : decode cL_law 91 = .ok (.bipush 6, 2) := by decide +kernel
theorem dL_law_93 : decode cL_law 93 = .ok (.irem, 1) := by decide +kernel
theorem dL_law_94 : decode cL_law 94 = .ok (.istore 4, 2) := by decide +kernel
theorem dL_law_96 : decode cL_law 96 = .ok (.aload_n 1, 1) := by decide +kernel
theorem dL_law_97 : decode cL_law 97 = .ok (.iload 4, 2) := by decide +kernel
theorem dL_law_99 : decode cL_law 99 = .ok (.aload_n 0, 1) := by decide +kernel
theorem dL_law_100 : decode cL_law 100 = .ok (.iload_n 3, 1) := by decide +kernel
theorem dL_law_101 : decode cL_law 101 = .ok (.iaload, 1) := by decide +kernel
theorem dL_law_102 : decode cL_law 102 = .ok (.iconst 4, 1) := by decide +kernel
theorem dL_law_103 : decode cL_law 103 = .ok (.ishr, 1) := by decide +kernel
theorem dL_law_104 : decode cL_law 104 = .ok (.bipush 15, 2) := by decide +kernel
theorem dL_law_106 : decode cL_law 106 = .ok (.iand, 1) := by decide +kernel
theorem dL_law_107 : decode cL_law 107 = .ok (.iconst 1, 1) := by decide +kernel
theorem dL_law_108 : decode cL_law 108 = .ok (.isub, 1) := by decide +kernel
theorem dL_law_109 : decode cL_law 109 = .ok (.aload_n 0, 1) := by decide +kernel
theorem dL_law_110 : decode cL_law 110 = .ok (.iload_n 3, 1) := by decide +kernel
theorem dL_law_111 : decode cL_law 111 = .ok (.iaload, 1) := by decide +kernel
theorem dL_law_112 : decode cL_law 112 = .ok (.bipush 8, 2) := by decide +kernel
theorem dL_law_114 : decode cL_law 114 = .ok (.ishr, 1) := by decide +kernel
theorem dL_law_115 : decode cL_law 115 = .ok (.invokestatic 51, 3) := by decide +kernel
theorem dL_law_118 : decode cL_law 118 = .ok (.pop2, 1) := by decide +kernel
theorem dL_law_119 : decode cL_law 119 = .ok (.aload_n 1, 1) := by decide +kernel
theorem dL_law_120 : decode cL_law 120 = .ok (.iconst 1, 1) := by decide +kernel
theorem dL_law_121 : decode cL_law 121 = .ok (.invokestatic 54, 3) := by decide +kernel
theorem dL_law_124 : decode cL_law 124 = .ok (.iload_n 3, 1) := by decide +kernel
theorem dL_law_125 : decode cL_law 125 = .ok (.iconst 1, 1) := by decide +kernel
theorem dL_law_126 : decode cL_law 126 = .ok (.iadd, 1) := by decide +kernel
theorem dL_law_127 : decode cL_law 127 = .ok (.if_icmp .eq 5, 3) := by decide +kernel
theorem dL_law_130 : decode cL_law 130 = .ok (.iconst 0, 1) := by decide +kernel
theorem dL_law_131 : decode cL_law 131 = .ok (.ireturn, 1) := by decide +kernel
theorem dL_law_132 : decode cL_law 132 = .ok (.aload_n 1, 1) := by decide +kernel
theorem dL_law_133 : decode cL_law 133 = .ok (.iconst 0, 1) := by decide +kernel
theorem dL_law_134 : decode cL_law 134 = .ok (.invokestatic 54, 3) := by decide +kernel
theorem dL_law_137 : decode cL_law 137 = .ok (.istore 5, 2) := by decide +kernel
theorem dL_law_139 : decode cL_law 139 = .ok (.iconst 0, 1) := by decide +kernel
theorem dL_law_140 : decode cL_law 140 = .ok (.istore 6, 2) := by decide +kernel
theorem dL_law_142 : decode cL_law 142 = .ok (.iconst 1, 1) := by decide +kernel
theorem dL_law_143 : decode cL_law 143 = .ok (.istore 7, 2) := by decide +kernel
theorem dL_law_145 : decode cL_law 145 = .ok (.iconst 0, 1) := by decide +kernel
theorem dL_law_146 : decode cL_law 146 = .ok (.istore 8, 2) := by decide +kernel
theorem dL_law_148 : decode cL_law 148 = .ok (.iload 8, 2) := by decide +kernel
theorem dL_law_150 : decode cL_law 150 = .ok (.iload 5, 2) := by decide +kernel
theorem dL_law_152 : decode cL_law 152 = .ok (.if_icmp .ge 165, 3) := by decide +kernel
theorem dL_law_155 : decode cL_law 155 = .ok (.iload 8, 2) := by decide +kernel
theorem dL_law_157 : decode cL_law 157 = .ok (.bipush 64, 2) := by decide +kernel
theorem dL_law_159 : decode cL_law 159 = .ok (.if_icmp .ge 158, 3) := by decide +kernel
theorem dL_law_162 : decode cL_law 162 = .ok (.aload_n 1, 1) := by decide +kernel
theorem dL_law_163 : decode cL_law 163 = .ok (.iload 8, 2) := by decide +kernel
theorem dL_law_165 : decode cL_law 165 = .ok (.invokestatic 57, 3) := by decide +kernel
theorem dL_law_168 : decode cL_law 168 = .ok (.istore 9, 2) := by decide +kernel
theorem dL_law_170 : decode cL_law 170 = .ok (.iload 9, 2) := by decide +kernel
theorem dL_law_172 : decode cL_law 172 = .ok (.ifCond .lt 60, 3) := by decide +kernel
theorem dL_law_175 : decode cL_law 175 = .ok (.iload 9, 2) := by decide +kernel
theorem dL_law_177 : decode cL_law 177 = .ok (.bipush 6, 2) := by decide +kernel
theorem dL_law_179 : decode cL_law 179 = .ok (.if_icmp .ge 53, 3) := by decide +kernel
theorem dL_law_182 : decode cL_law 182 = .ok (.iload 7, 2) := by decide +kernel
theorem dL_law_184 : decode cL_law 184 = .ok (.ifCond .eq 13, 3) := by decide +kernel
theorem dL_law_187 : decode cL_law 187 = .ok (.iload 9, 2) := by decide +kernel
theorem dL_law_189 : decode cL_law 189 = .ok (.iload 4, 2) := by decide +kernel
theorem dL_law_191 : decode cL_law 191 = .ok (.if_icmp .eq 26, 3) := by decide +kernel
theorem dL_law_194 : decode cL_law 194 = .ok (.goto 21, 3) := by decide +kernel
theorem dL_law_197 : decode cL_law 197 = .ok (.iload 6, 2) := by decide +kernel
theorem dL_law_199 : decode cL_law 199 = .ok (.ifCond .eq 16, 3) := by decide +kernel
theorem dL_law_202 : decode cL_law 202 = .ok (.iload 9, 2) := by decide +kernel
theorem dL_law_204 : decode cL_law 204 = .ok (.aload_n 2, 1) := by decide +kernel
theorem dL_law_205 : decode cL_law 205 = .ok (.iload 6, 2) := by decide +kernel
theorem dL_law_207 : decode cL_law 207 = .ok (.iconst 1, 1) := by decide +kernel
theorem dL_law_208 : decode cL_law 208 = .ok (.isub, 1) := by decide +kernel
theorem dL_law_209 : decode cL_law 209 = .ok (.iaload, 1) := by decide +kernel
theorem dL_law_210 : decode cL_law 210 = .ok (.iconst 1, 1) := by decide +kernel
theorem dL_law_211 : decode cL_law 211 = .ok (.isub, 1) := by decide +kernel
theorem dL_law_212 : decode cL_law 212 = .ok (.if_icmp .eq 5, 3) := by decide +kernel
theorem dL_law_215 : decode cL_law 215 = .ok (.iconst 0, 1) := by decide +kernel
theorem dL_law_216 : decode cL_law 216 = .ok (.ireturn, 1) := by decide +kernel
theorem dL_law_217 : decode cL_law 217 = .ok (.aload_n 2, 1) := by decide +kernel
theorem dL_law_218 : decode cL_law 218 = .ok (.iload 6, 2) := by decide +kernel
theorem dL_law_220 : decode cL_law 220 = .ok (.iload 9, 2) := by decide +kernel
theorem dL_law_222 : decode cL_law 222 = .ok (.iastore, 1) := by decide +kernel
theorem dL_law_223 : decode cL_law 223 = .ok (.iinc 6 1, 3) := by decide +kernel
theorem dL_law_226 : decode cL_law 226 = .ok (.iconst 0, 1) := by decide +kernel
theorem dL_law_227 : decode cL_law 227 = .ok (.istore 7, 2) := by decide +kernel
theorem dL_law_229 : decode cL_law 229 = .ok (.goto 82, 3) := by decide +kernel
theorem dL_law_232 : decode cL_law 232 = .ok (.iload 9, 2) := by decide +kernel
theorem dL_law_234 : decode cL_law 234 = .ok (.sipush 600, 3) := by decide +kernel
theorem dL_law_237 : decode cL_law 237 = .ok (.if_icmp .lt 74, 3) := by decide +kernel
theorem dL_law_240 : decode cL_law 240 = .ok (.iload 9, 2) := by decide +kernel
theorem dL_law_242 : decode cL_law 242 = .ok (.sipush 606, 3) := by decide +kernel
theorem dL_law_245 : decode cL_law 245 = .ok (.if_icmp .ge 66, 3) := by decide +kernel
theorem dL_law_248 : decode cL_law 248 = .ok (.iload 6, 2) := by decide +kernel
theorem dL_law_250 : decode cL_law 250 = .ok (.ifCond .le 61, 3) := by decide +kernel
theorem dL_law_253 : decode cL_law 253 = .ok (.iload 9, 2) := by decide +kernel
theorem dL_law_255 : decode cL_law 255 = .ok (.sipush 600, 3) := by decide +kernel
theorem dL_law_258 : decode cL_law 258 = .ok (.aload_n 2, 1) := by decide +kernel
theorem dL_law_259 : decode cL_law 259 = .ok (.iload 6, 2) := by decide +kernel
theorem dL_law_261 : decode cL_law 261 = .ok (.iconst 1, 1) := by decide +kernel
theorem dL_law_262 : decode cL_law 262 = .ok (.isub, 1) := by decide +kernel
theorem dL_law_263 : decode cL_law 263 = .ok (.iaload, 1) := by decide +kernel
theorem dL_law_264 : decode cL_law 264 = .ok (.iadd, 1) := by decide +kernel
theorem dL_law_265 : decode cL_law 265 = .ok (.if_icmp .ne 46, 3) := by decide +kernel
theorem dL_law_268 : decode cL_law 268 = .ok (.iinc 6 (-1), 3) := by decide +kernel
theorem dL_law_271 : decode cL_law 271 = .ok (.iload 6, 2) := by decide +kernel
theorem dL_law_273 : decode cL_law 273 = .ok (.ifCond .ne 38, 3) := by decide +kernel
theorem dL_law_276 : decode cL_law 276 = .ok (.iload 8, 2) := by decide +kernel
theorem dL_law_278 : decode cL_law 278 = .ok (.iconst 1, 1) := by decide +kernel
theorem dL_law_279 : decode cL_law 279 = .ok (.iadd, 1) := by decide +kernel
theorem dL_law_280 : decode cL_law 280 = .ok (.iload 5, 2) := by decide +kernel
theorem dL_law_282 : decode cL_law 282 = .ok (.if_icmp .ge 29, 3) := by decide +kernel
theorem dL_law_285 : decode cL_law 285 = .ok (.aload_n 1, 1) := by decide +kernel
theorem dL_law_286 : decode cL_law 286 = .ok (.iload 8, 2) := by decide +kernel
theorem dL_law_288 : decode cL_law 288 = .ok (.iconst 1, 1) := by decide +kernel
theorem dL_law_289 : decode cL_law 289 = .ok (.iadd, 1) := by decide +kernel
theorem dL_law_290 : decode cL_law 290 = .ok (.invokestatic 57, 3) := by decide +kernel
theorem dL_law_293 : decode cL_law 293 = .ok (.ifCond .lt 18, 3) := by decide +kernel
theorem dL_law_296 : decode cL_law 296 = .ok (.aload_n 1, 1) := by decide +kernel
theorem dL_law_297 : decode cL_law 297 = .ok (.iload 8, 2) := by decide +kernel
theorem dL_law_299 : decode cL_law 299 = .ok (.iconst 1, 1) := by decide +kernel
theorem dL_law_300 : decode cL_law 300 = .ok (.iadd, 1) := by decide +kernel
theorem dL_law_301 : decode cL_law 301 = .ok (.invokestatic 57, 3) := by decide +kernel
theorem dL_law_304 : decode cL_law 304 = .ok (.bipush 6, 2) := by decide +kernel
theorem dL_law_306 : decode cL_law 306 = .ok (.if_icmp .ge 5, 3) := by decide +kernel
theorem dL_law_309 : decode cL_law 309 = .ok (.iconst 0, 1) := by decide +kernel
theorem dL_law_310 : decode cL_law 310 = .ok (.ireturn, 1) := by decide +kernel
theorem dL_law_311 : decode cL_law 311 = .ok (.iinc 8 1, 3) := by decide +kernel
theorem dL_law_314 : decode cL_law 314 = .ok (.goto (-166), 3) := by decide +kernel
theorem dL_law_317 : decode cL_law 317 = .ok (.iload 5, 2) := by decide +kernel
theorem dL_law_319 : decode cL_law 319 = .ok (.bipush 64, 2) := by decide +kernel
theorem dL_law_321 : decode cL_law 321 = .ok (.if_icmp .gt 8, 3) := by decide +kernel
theorem dL_law_324 : decode cL_law 324 = .ok (.iload 6, 2) := by decide +kernel
theorem dL_law_326 : decode cL_law 326 = .ok (.ifCond .ne 14, 3) := by decide +kernel
theorem dL_law_329 : decode cL_law 329 = .ok (.aload_n 1, 1) := by decide +kernel
theorem dL_law_330 : decode cL_law 330 = .ok (.iload 5, 2) := by decide +kernel
theorem dL_law_332 : decode cL_law 332 = .ok (.invokestatic 57, 3) := by decide +kernel
theorem dL_law_335 : decode cL_law 335 = .ok (.ldc 15, 2) := by decide +kernel
theorem dL_law_337 : decode cL_law 337 = .ok (.if_icmp .eq 5, 3) := by decide +kernel
theorem dL_law_340 : decode cL_law 340 = .ok (.iconst 0, 1) := by decide +kernel
theorem dL_law_341 : decode cL_law 341 = .ok (.ireturn, 1) := by decide +kernel
theorem dL_law_342 : decode cL_law 342 = .ok (.iinc 3 1, 3) := by decide +kernel
theorem dL_law_345 : decode cL_law 345 = .ok (.goto (-272), 3) := by decide +kernel
theorem dL_law_348 : decode cL_law 348 = .ok (.iconst 1, 1) := by decide +kernel
theorem dL_law_349 : decode cL_law 349 = .ok (.ireturn, 1) := by decide +kernel
end
section
/-! THE COMMON ROWS: the classes, what holds at any place of a walk (KI), before a call (KP), behind it (KB); calls and ends in these words -/
abbrev kCl : List vw_C := [(RX0, TX0, 4), (RX1, TX1, 2), (RX2, TX2, 3), (RX3, TX3, 4)]
/-- the array classes of a world: 0 the rig's levels, 1 to 3 its rows, 4 the law's row -/
def kTy (cy : Nat → ClassId) : List (ClassId × FieldType) := [(cy 0, .object RX0), (cy 1, .int), (cy 2, .int), (cy 3, .int), (cy 4, .int)]
/-- the nest mates' fields that UnwindRig reads -/
def rgN (U : State) : Prop := va_Nw (.fieldLinkNest RX3 80 RX1 "row" "[I" RX3) U ∧ va_Nw (.fieldLinkNest RX3 84 RX1 "made" "I" RX3) U ∧ va_Nw (.fieldLinkNest RX3 45 RX0 "takes" "I" RX3) U ∧ va_Nw (.fieldLinkNest RX3 48 RX0 "then" "I" RX3) U ∧ va_Nw (.fieldLinkNest RX3 51 RX0 "last" "I" RX3) U ∧ va_Nw (.fieldLinkNest RX3 41 RX0 "value" "I" RX3) U
/-- the two statics that a throw reads -/
def rgZ (A : Nat → Prop) (U : State) (H : Heap) : Prop := vx_Zq Bundle.tN "UNASSIGNED_STACK" Bundle.steD A U H ∧ vx_Zq Bundle.tN "SUPPRESSED_SENTINEL" Bundle.listD A U H
/-- the texts of the throws -/
def rgR (U : State) : Prop := (∃ a, vk_R RX3 36 "no such level" a U) ∧ (∃ a, vk_R RX3 139 "a GRIT came out" a U) ∧ (∃ a, vk_R RX3 144 "a SHARD came out" a U) ∧ (∃ a, vk_R RX3 149 "a division by 0 came out" a U) ∧ (∃ a, vk_R RX3 152 "a use of nothing came out" a U) ∧ (∃ a, vk_R RX3 154 "an index beyond its array came out" a U) ∧ (∃ a, vk_R RX3 78 "no such note was kept" a U) ∧ (∃ a, vk_R RX3 101 "no such count" a U)
/-- the words of the throws that a method's own list doesn't carry -/
def nwl : List Cond := [.declares (Bundle.initS "java/lang/IndexOutOfBoundsException"), .declares (Bundle.initS "java/lang/RuntimeException"), .declares (Bundle.initS "java/lang/Exception"), .declares (Bundle.initS "java/lang/Throwable"),
  .castable "java/lang/IllegalStateException" "java/lang/IllegalStateException", .castable "java/lang/UnsupportedOperationException" "java/lang/UnsupportedOperationException", .castable "java/lang/ArithmeticException" "java/lang/ArithmeticException", .castable "java/lang/ArrayIndexOutOfBoundsException" "java/lang/ArrayIndexOutOfBoundsException", .castable "java/lang/NullPointerException" "java/lang/NullPointerException", .castable "java/lang/RuntimeException" "java/lang/Throwable"]
def rgX (U : State) : Prop := ∀ w ∈ nwl, va_Nw w U
theorem rgX.go {s U : State} (h : rgX s) (hW : s.WarmedH U.vm) : rgX U := by
  intro w hw
  have h1 := h w hw
  simp only [nwl, List.mem_cons, List.not_mem_nil, or_false] at hw
  rcases hw with rfl | rfl | rfl | rfl | rfl | rfl | rfl | rfl | rfl | rfl
  · exact h1.warmD hW
  · exact h1.warmD hW
  · exact h1.warmD hW
  · exact h1.warmD hW
  · exact h1.warmC hW
  · exact h1.warmC hW
  · exact h1.warmC hW
  · exact h1.warmC hW
  · exact h1.warmC hW
  · exact h1.warmC hW
/-- what is thrown isn't caught as one of these -/
def ncl : List (String × String) := [("java/lang/IllegalStateException", "java/lang/ArithmeticException"), ("java/lang/UnsupportedOperationException", "java/lang/ArithmeticException"), ("java/lang/UnsupportedOperationException", "java/lang/IllegalStateException"),
  ("java/lang/NullPointerException", "java/lang/ArithmeticException"), ("java/lang/NullPointerException", "java/lang/IllegalStateException"), ("java/lang/NullPointerException", "java/lang/UnsupportedOperationException"),
  ("java/lang/ArrayIndexOutOfBoundsException", "java/lang/ArithmeticException"), ("java/lang/ArrayIndexOutOfBoundsException", "java/lang/IllegalStateException"), ("java/lang/ArrayIndexOutOfBoundsException", "java/lang/UnsupportedOperationException"), ("java/lang/ArrayIndexOutOfBoundsException", "java/lang/NullPointerException")]
def rgC (U : State) : Prop := ∀ q ∈ ncl, va_Nc q.1 q.2 U
/-- what UnwindRig's constructor links of its nest mates, and its row of levels -/
def rgM (U : State) : Prop := va_Nw (.methodLinkNest RX3 17 yX1_init RX3) U ∧ va_Nw (.methodLinkNest RX3 24 yX2_init RX3) U ∧ va_Nw (.methodLinkNest RX3 29 yX0_init RX3) U ∧ va_AO RX0 U
def rgE (A : Nat → Prop) (U : State) : Prop := rgN U ∧ rgZ A U U.heap ∧ rgR U ∧ rgX U ∧ rgC U ∧ rgM U
theorem rgE.go {A : Nat → Prop} {s U : State} {locs : List Loc} (h : rgE A s) (hW : s.WarmedH U.vm) (hS : va_S A s.heap U.heap locs) : rgE A U := by
  obtain ⟨⟨n1, n2, n3, n4, n5, n6⟩, ⟨z1, z2⟩, ⟨⟨a1, r1⟩, ⟨a2, r2⟩, ⟨a3, r3⟩, ⟨a4, r4⟩, ⟨a5, r5⟩, ⟨a6, r6⟩, ⟨a7, r7⟩, ⟨a8, r8⟩⟩, hx, hc, m1, m2, m3, m4⟩ := h
  exact ⟨⟨n1.warmF hW, n2.warmF hW, n3.warmF hW, n4.warmF hW, n5.warmF hW, n6.warmF hW⟩, ⟨(z1.kept hS.2.1).moved hW.alike, (z2.kept hS.2.1).moved hW.alike⟩,
    ⟨⟨a1, r1.warm hW⟩, ⟨a2, r2.warm hW⟩, ⟨a3, r3.warm hW⟩, ⟨a4, r4.warm hW⟩, ⟨a5, r5.warm hW⟩, ⟨a6, r6.warm hW⟩, ⟨a7, r7.warm hW⟩, ⟨a8, r8.warm hW⟩⟩, hx.go hW, fun q hq => (hc q hq).moved hW.alike, m1.warmM hW, m2.warmM hW, m3.warmM hW, va_AO.moved hW.alike m4⟩
def KP (D : va_G) (cy : Nat → ClassId) (A : Nat → Prop) (ww : va_W) (U : State) : Prop := (∀ q, U.heap.size ≤ q → A q) ∧ va_P D kCl ww U.heap ∧ va_K D kCl (kTy cy) U ∧ va_D A ww ∧ rgE A U
def KB (D : va_G) (cy : Nat → ClassId) (A : Nat → Prop) (ww : va_W) (t : State) : Prop := va_P D kCl ww t.heap ∧ va_K D kCl (kTy cy) t ∧ va_D A ww
def KI (D : va_G) (cy : Nat → ClassId) (A : Nat → Prop) (ww : va_W) (s : State) (H : Heap) (locs : List Loc) : Prop := va_K D kCl (kTy cy) s ∧ rgE A s ∧ (∀ q, s.heap.size ≤ q → A q) ∧ va_P D kCl ww H ∧ va_D A ww ∧ va_S A s.heap H locs
theorem KP_blind {D : va_G} {cy : Nat → ClassId} {A : Nat → Prop} {ww : va_W} {av : List Value} : FrameBlind (va_Pc av (KP D cy A ww)) := by
  intro a U g mk q
  obtain ⟨q0, h1, h2, h3, h4, h5⟩ := q
  exact ⟨q0, h1, h2, va_K.moved (u := U) (U := U.calling g mk a) (Vm.Alike.refl U.vm) h3, h4, rgE.go (U := U.calling g mk a) h5 (State.WarmedH.refl U) va_S.rf⟩
theorem KI.pre {D : va_G} {cy : Nat → ClassId} {A : Nat → Prop} {ww : va_W} {s : State} {H : Heap} {locs : List Loc} (I : KI D cy A ww s H locs) {U : State} (hU : U.heap = H) (hW : s.WarmedH U.vm) : KP D cy A ww U := by
  obtain ⟨h1, h2, h3, h4, h5, h6⟩ := I
  subst hU
  exact ⟨fun q h => h3 q (Nat.le_trans h6.1 h), h4, va_K.moved hW.alike h1, h5, h2.go hW h6⟩
theorem KI.post {D : va_G} {cy : Nat → ClassId} {A : Nat → Prop} {ww w1 : va_W} {s t : State} {H H1 : Heap} {locs locs1 : List Loc} (I : KI D cy A ww s H locs) (ht : t.heap = H1) (hB : KB D cy A w1 t) (hS : va_S A s.heap H1 locs1) : KI D cy A w1 s H1 locs1 := by
  obtain ⟨h1, h2, h3, h4, h5, h6⟩ := I
  subst ht
  exact ⟨h1, h2, h3, hB.1, hB.2.2, hS⟩
theorem KI.to {D : va_G} {cy : Nat → ClassId} {A : Nat → Prop} {ww w1 : va_W} {s : State} {H : Heap} {locs : List Loc} (I : KI D cy A ww s H locs) (h : ww = w1) : KI D cy A w1 s H locs := h ▸ I
theorem KI.sub {D : va_G} {cy : Nat → ClassId} {A : Nat → Prop} {ww w1 : va_W} {s : State} {H : Heap} {locs : List Loc} (I : KI D cy A ww s H locs) (is : List Nat) (hn : va_nd is = true) (h1 : is.filterMap (fun i => ww[i]?) = w1) (h2 : is.map (fun i => ww[i]?) = w1.map some) : KI D cy A w1 s H locs :=
  ⟨I.1, I.2.1, I.2.2.1, I.2.2.2.1.sub is h1, I.2.2.2.2.1.sub is hn h2, I.2.2.2.2.2⟩
/-- a method's body, from its entry -/
theorem k_open {l : Launch} {y : MethodName} {ws ws' : List Cond} {rm : Room} {Qc : Array Value → State → Outcome → State → Prop} {mc ms : Nat} {A : Nat → Prop} {cc : ByteArray} {maxL : Nat} {ret : Option FieldType} {D : va_G} {cy : Nat → ClassId} {ww : va_W} {av : List Value} {own : String}
    (hy : plainName y.cls = true) (hw : ws = Cond.code y cc maxL ret :: ws') (hown : y.cls = own) (hsz : (lg_sl av).length ≤ maxL)
    (body : ∀ p e s m args below meth c, CallFix p m c cc maxL s args ws own → meth.sig.returnType = ret → meth.locks = false → KI D cy A ww s s.heap [] → ∀ ls, lv_has ls maxL (lv_args 0 av) → W p l e rm s m args below meth c s.heap [] 0 0 (MQ below Qc args s mc ms A) (F0 m 0 ls [])) : Met l y ws rm (va_Pc av (KP D cy A ww)) Qc mc ms A := by
  refine Met.ofW (cc := cc) (maxL := maxL) (ret := ret) hy hw ?_
  intro p e s m args below meth c s₁ B hml hv
  obtain ⟨rfl, hA, hP, hK, hD, hE⟩ := hv
  rw [lg_entry_eq]
  exact body p e s m _ below meth c ⟨B.exec, B.bytes, hml, hown ▸ findClass_of_methodNamed B.named, atoms_spec (ws := ws) B.pre⟩ B.returns B.notSynchronized ⟨hK, hE, hA, hP, hD, va_S.rf⟩ _ (lv_entry av hsz)
section KR
variable {p : Program} {l : Launch} {e : Env} {R : Room} {s : State} {m : MethodId} {args : Array Value} {below : List Frame} {meth : Method} {c : Code} {H : Heap} {locs : List Loc} {cells slots : Nat} {Q : State → Prop}
variable {cc : ByteArray} {nL : Nat} {Ts : List Cond} {own : String} {D : va_G} {cy : Nat → ClassId} {A : Nat → Prop} {ww w1 : va_W} {pc : Nat} {ls : Array Slot} {rest st0 : List Value}
-- ends
theorem k_iret {v G : Int32} (S : CallFix p m c cc nL s args Ts own) (hr : meth.sig.returnType = some .int) (hlk : meth.locks = false) (I : KI D cy A ww s H locs) (hv : v = G) (hw : ww = w1) (d : decode cc pc = .ok (.ireturn, 1)) :
    W p l e R s m args below meth c H locs cells slots (MQ below (va_Qi (fun (r : Int32) (_ : Unit) => r = G) (fun _ => KB D cy A w1) A) args s cells slots A) (F0 m pc ls [.int v]) := by
  obtain ⟨h1, h2, h3, h4, h5, h6⟩ := I
  subst hw
  exact W.iret (v := v) S.1 S.2.1 hr (fun t ht hW => ⟨⟨v, (), rfl, hv, by rw [ht]; exact h4, va_K.moved hW.alike h1, h5⟩, h6.F ht⟩) h6.2.2 d hlk
theorem k_zret {v G : Int32} (S : CallFix p m c cc nL s args Ts own) (hr : meth.sig.returnType = some .boolean) (hlk : meth.locks = false) (I : KI D cy A ww s H locs) (hz : narrow .boolean (.int v) = .int v) (hv : v = G) (hw : ww = w1) (d : decode cc pc = .ok (.ireturn, 1)) :
    W p l e R s m args below meth c H locs cells slots (MQ below (va_Qi (fun (r : Int32) (_ : Unit) => r = G) (fun _ => KB D cy A w1) A) args s cells slots A) (F0 m pc ls [.int v]) := by
  obtain ⟨h1, h2, h3, h4, h5, h6⟩ := I
  subst hw
  exact W.zret (v := v) (ty := .boolean) S.1 S.2.1 hr hz (fun t ht hW => ⟨⟨v, (), rfl, hv, by rw [ht]; exact h4, va_K.moved hW.alike h1, h5⟩, h6.F ht⟩) h6.2.2 d hlk
theorem k_lret {v G : Int64} (S : CallFix p m c cc nL s args Ts own) (hr : meth.sig.returnType = some .long) (hlk : meth.locks = false) (I : KI D cy A ww s H locs) (hv : v = G) (hw : ww = w1) (d : decode cc pc = .ok (.lreturn, 1)) :
    W p l e R s m args below meth c H locs cells slots (MQ below (va_Ql (fun (r : Int64) (_ : Unit) => r = G) (fun _ => KB D cy A w1) A) args s cells slots A) (F0 m pc ls [.long v]) := by
  obtain ⟨h1, h2, h3, h4, h5, h6⟩ := I
  subst hw
  exact W.lret (v := v) S.1 S.2.1 hr (fun t ht hW => ⟨⟨v, (), rfl, hv, by rw [ht]; exact h4, va_K.moved hW.alike h1, h5⟩, h6.F ht⟩) h6.2.2 d hlk
theorem k_vret (S : CallFix p m c cc nL s args Ts own) (hr : meth.sig.returnType = none) (hlk : meth.locks = false) (I : KI D cy A ww s H locs) (hw : ww = w1) (d : decode cc pc = .ok (.return_, 1)) :
    W p l e R s m args below meth c H locs cells slots (MQ below (va_Qv (fun (_ : Unit) => True) (fun _ => KB D cy A w1) A) args s cells slots A) (F0 m pc ls []) := by
  obtain ⟨h1, h2, h3, h4, h5, h6⟩ := I
  subst hw
  exact W.vret S.1 S.2.1 hr (fun t ht hW => ⟨⟨(), rfl, trivial, by rw [ht]; exact h4, va_K.moved hW.alike h1, h5⟩, h6.F ht⟩) h6.2.2 d hlk
-- calls
section KV
variable {C : String} {index maxL mc ms n : Nat} {y : MethodName} {bytes : ByteArray} {ret : Option FieldType} {ws : List Cond} {rm : Room} {b : Addr} {As : List Value} {q0 ci : Nat} {fs : List Value} {q : vw_C}
theorem k_Vv (S : CallFix p m c cc nL s args Ts own) (I : KI D cy A ww s H locs) (hM : Met l y ws rm (va_Pc (.ref b :: As) (KP D cy A ww)) (va_Qv (fun (_ : Unit) => True) (fun _ => KB D cy A w1) A) mc ms A)
    (cw : CallW R s args own C index y bytes maxL ret ws rm mc ms n) (hq : ww[q0]? = some (b, .inr (ci, fs))) (hc : kCl[ci]? = some q) (hC : q.1 = C) (hn : As.length = n) (hl : ls.size = nL) (hst : st0 = As.reverse ++ .ref b :: rest) (hr : (rest.map fun v => v.category).sum ≤ 8) (d : decode cc pc = .ok (.invokevirtual index, 3)) (hf : cells + mc ≤ R.cells ∧ slots + ms ≤ R.slots)
    (kk : ∀ (H1 : Heap) (locs1 : List Loc), KI D cy A w1 s H1 locs1 → W p l e R s m args below meth c H1 locs1 (cells + mc) (slots + ms) Q (F0 m (pc + 3) ls rest)) : W p l e R s m args below meth c H locs cells slots Q (F0 m pc ls st0) := by
  have hI := I
  obtain ⟨h1, h2, h3, h4, h5, h6⟩ := I
  refine va_callv (va_runV (As := As) (rest := rest) S hM cw ⟨KP_blind, hC ▸ va_recv h1 h4 hc hq, fun U hU hW => ⟨rfl, hI.pre hU hW⟩⟩ rfl hn hl hst (lv_room (m := m) (pc := pc) (ls := ls) (rest := st0) hr) d hf) h6 (fun _ _ h => h) (fun _ h => h) (fun u t H1 locs1 ht hvm hw hB hz1 hk1 hS1 => ?_)
  exact kk H1 locs1 (hI.post ht hB hS1)
theorem k_Vi {G : Int32} (S : CallFix p m c cc nL s args Ts own) (I : KI D cy A ww s H locs) (hM : Met l y ws rm (va_Pc (.ref b :: As) (KP D cy A ww)) (va_Qi (fun (r : Int32) (_ : Unit) => r = G) (fun _ => KB D cy A w1) A) mc ms A)
    (cw : CallW R s args own C index y bytes maxL ret ws rm mc ms n) (hq : ww[q0]? = some (b, .inr (ci, fs))) (hc : kCl[ci]? = some q) (hC : q.1 = C) (hn : As.length = n) (hl : ls.size = nL) (hst : st0 = As.reverse ++ .ref b :: rest) (hr : (rest.map fun v => v.category).sum ≤ 8) (d : decode cc pc = .ok (.invokevirtual index, 3)) (hf : cells + mc ≤ R.cells ∧ slots + ms ≤ R.slots)
    (kk : ∀ (H1 : Heap) (locs1 : List Loc), KI D cy A w1 s H1 locs1 → W p l e R s m args below meth c H1 locs1 (cells + mc) (slots + ms) Q (F0 m (pc + 3) ls (.int G :: rest))) : W p l e R s m args below meth c H locs cells slots Q (F0 m pc ls st0) := by
  have hI := I
  obtain ⟨h1, h2, h3, h4, h5, h6⟩ := I
  refine va_calli (va_runV (As := As) (rest := rest) S hM cw ⟨KP_blind, hC ▸ va_recv h1 h4 hc hq, fun U hU hW => ⟨rfl, hI.pre hU hW⟩⟩ rfl hn hl hst (lv_room (m := m) (pc := pc) (ls := ls) (rest := st0) hr) d hf) h6 (fun _ _ h => h) (fun _ h => h) (fun r u t H1 locs1 ht hvm hw hB hz1 hk1 hS1 => ?_)
  subst hw
  exact kk H1 locs1 (hI.post ht hB hS1)
theorem k_Vl {G : Int64} (S : CallFix p m c cc nL s args Ts own) (I : KI D cy A ww s H locs) (hM : Met l y ws rm (va_Pc (.ref b :: As) (KP D cy A ww)) (va_Ql (fun (r : Int64) (_ : Unit) => r = G) (fun _ => KB D cy A w1) A) mc ms A)
    (cw : CallW R s args own C index y bytes maxL ret ws rm mc ms n) (hq : ww[q0]? = some (b, .inr (ci, fs))) (hc : kCl[ci]? = some q) (hC : q.1 = C) (hn : As.length = n) (hl : ls.size = nL) (hst : st0 = As.reverse ++ .ref b :: rest) (hr : (rest.map fun v => v.category).sum ≤ 8) (d : decode cc pc = .ok (.invokevirtual index, 3)) (hf : cells + mc ≤ R.cells ∧ slots + ms ≤ R.slots)
    (kk : ∀ (H1 : Heap) (locs1 : List Loc), KI D cy A w1 s H1 locs1 → W p l e R s m args below meth c H1 locs1 (cells + mc) (slots + ms) Q (F0 m (pc + 3) ls (.long G :: rest))) : W p l e R s m args below meth c H locs cells slots Q (F0 m pc ls st0) := by
  have hI := I
  obtain ⟨h1, h2, h3, h4, h5, h6⟩ := I
  refine va_calll (va_runV (As := As) (rest := rest) S hM cw ⟨KP_blind, hC ▸ va_recv h1 h4 hc hq, fun U hU hW => ⟨rfl, hI.pre hU hW⟩⟩ rfl hn hl hst (lv_room (m := m) (pc := pc) (ls := ls) (rest := st0) hr) d hf) h6 (fun _ _ h => h) (fun _ h => h) (fun r u t H1 locs1 ht hvm hw hB hz1 hk1 hS1 => ?_)
  subst hw
  exact kk H1 locs1 (hI.post ht hB hS1)
theorem k_Si {G : Int32} (S : CallFix p m c cc nL s args Ts own) (I : KI D cy A ww s H locs) (hM : Met l y ws rm (va_Pc As (KP D cy A ww)) (va_Qi (fun (r : Int32) (_ : Unit) => r = G) (fun _ => KB D cy A w1) A) mc ms A)
    (cw : CallB R s args own index y bytes maxL ret ws rm mc ms n ∧ (Cond.static y).before args s = true) (hn : As.length = n) (hl : ls.size = nL) (hst : st0 = As.reverse ++ rest) (hr : (rest.map fun v => v.category).sum ≤ 8) (d : decode cc pc = .ok (.invokestatic index, 3)) (hf : cells + mc ≤ R.cells ∧ slots + ms ≤ R.slots)
    (kk : ∀ (H1 : Heap) (locs1 : List Loc), KI D cy A w1 s H1 locs1 → W p l e R s m args below meth c H1 locs1 (cells + mc) (slots + ms) Q (F0 m (pc + 3) ls (.int G :: rest))) : W p l e R s m args below meth c H locs cells slots Q (F0 m pc ls st0) := by
  have hI := I
  obtain ⟨h1, h2, h3, h4, h5, h6⟩ := I
  refine va_calli (va_runS (As := As) (rest := rest) S hM cw ⟨KP_blind, fun U hU hW => ⟨rfl, hI.pre hU hW⟩⟩ rfl hn hl hst (lv_room (m := m) (pc := pc) (ls := ls) (rest := st0) hr) d hf) h6 (fun _ _ h => h) (fun _ h => h) (fun r u t H1 locs1 ht hvm hw hB hz1 hk1 hS1 => ?_)
  subst hw
  exact kk H1 locs1 (hI.post ht hB hS1)
end KV
-- fields and rows
section KF
variable {ref C : String} {T : u_T} {N ci index : Nat} {a : Addr} {fs : List Value} {q0 k : Nat} {v : Value}
theorem k_get (S : CallFix p m c cc nL s args Ts own) (I : KI D cy A ww s H locs) (hin : ∀ w ∈ u_ws C T N, w ∈ Ts) (he : ww[q0]? = some (a, .inr (ci, fs))) (hc : kCl[ci]? = some (C, T, N)) (hk : k < N) (hlink : Cond.fieldLink own index (T k).1 (T k).2.1 (T k).2.2.1 ∈ Ts) (hv : fs[k]? = some v) (d : decode cc pc = .ok (.getfield index, 3))
    (kk : W p l e R s m args below meth c H locs cells slots Q (F0 m (pc + 3) ls (v :: rest))) : W p l e R s m args below meth c H locs cells slots Q (F0 m pc ls (.ref a :: rest)) :=
  va_get S.1 S.2.1 S.2.2.2.2 hin S.2.2.2.1 I.1 I.2.2.2.1 q0 he hc k hk (S.2.2.2.2 _ hlink) (fun _ h => h) hv d kk
theorem k_getN {host : String} (S : CallFix p m c cc nL s args Ts own) (I : KI D cy A ww s H locs) (hin : ∀ w ∈ u_ws C T N, w ∈ Ts) (he : ww[q0]? = some (a, .inr (ci, fs))) (hc : kCl[ci]? = some (C, T, N)) (hk : k < N) (hlink : va_Nw (Cond.fieldLinkNest own index (T k).1 (T k).2.1 (T k).2.2.1 host) s) (hv : fs[k]? = some v) (d : decode cc pc = .ok (.getfield index, 3))
    (kk : W p l e R s m args below meth c H locs cells slots Q (F0 m (pc + 3) ls (v :: rest))) : W p l e R s m args below meth c H locs cells slots Q (F0 m pc ls (.ref a :: rest)) :=
  va_getN S.1 S.2.1 S.2.2.2.2 hin S.2.2.2.1 I.1 I.2.2.2.1 q0 he hc k hk (va_Nw.use rfl hlink) (fun _ h => h) hv d kk
theorem k_put {ty : FieldType} (S : CallFix p m c cc nL s args Ts own) (I : KI D cy A ww s H locs) (hin : ∀ w ∈ u_ws C T N, w ∈ Ts) (ty0 : Nat → FieldType) (hty : ∀ k, k < N → parseFieldDescriptor (T k).2.2.1 = some (ty0 k)) (hnm : ∀ a, a < N → ∀ b, b < N → a ≠ b → (T a).2.1 ≠ (T b).2.1) (he : ww[q0]? = some (a, .inr (ci, fs))) (hc : kCl[ci]? = some (C, T, N)) (hk : k < N) (hlink : Cond.fieldLink own index (T k).1 (T k).2.1 (T k).2.2.1 ∈ Ts) (hfin : (T k).2.2.2 = false) (htk : ty0 k = ty) (hn : narrow ty v = v) (hfit : fits ty v = true) (hl : k < fs.length) (hw : ww.set q0 (a, .inr (ci, fs.set k v)) = w1) (d : decode cc pc = .ok (.putfield index, 3))
    (kk : ∀ (H1 : Heap) (locs1 : List Loc), KI D cy A w1 s H1 locs1 → W p l e R s m args below meth c H1 locs1 cells slots Q (F0 m (pc + 3) ls rest)) : W p l e R s m args below meth c H locs cells slots Q (F0 m pc ls (v :: .ref a :: rest)) := by
  subst hw
  exact va_put S.1 S.2.1 S.2.2.2.2 hin ty0 hty hnm S.2.2.2.1 I.1 I.2.2.2.1 I.2.2.2.2.1 I.2.2.2.2.2 q0 he hc k hk (S.2.2.2.2 _ hlink) (fun _ h => h) hfin (htk ▸ hty k hk) hn hfit hl d (fun H1 locs1 hP hD hS => kk H1 locs1 ⟨I.1, I.2.1, I.2.2.1, hP, hD, hS⟩)
theorem k_putN {ty : FieldType} {host : String} (S : CallFix p m c cc nL s args Ts own) (I : KI D cy A ww s H locs) (hin : ∀ w ∈ u_ws C T N, w ∈ Ts) (ty0 : Nat → FieldType) (hty : ∀ k, k < N → parseFieldDescriptor (T k).2.2.1 = some (ty0 k)) (hnm : ∀ a, a < N → ∀ b, b < N → a ≠ b → (T a).2.1 ≠ (T b).2.1) (he : ww[q0]? = some (a, .inr (ci, fs))) (hc : kCl[ci]? = some (C, T, N)) (hk : k < N) (hlink : va_Nw (Cond.fieldLinkNest own index (T k).1 (T k).2.1 (T k).2.2.1 host) s) (hfin : (T k).2.2.2 = false) (htk : ty0 k = ty) (hn : narrow ty v = v) (hfit : fits ty v = true) (hl : k < fs.length) (hw : ww.set q0 (a, .inr (ci, fs.set k v)) = w1) (d : decode cc pc = .ok (.putfield index, 3))
    (kk : ∀ (H1 : Heap) (locs1 : List Loc), KI D cy A w1 s H1 locs1 → W p l e R s m args below meth c H1 locs1 cells slots Q (F0 m (pc + 3) ls rest)) : W p l e R s m args below meth c H locs cells slots Q (F0 m pc ls (v :: .ref a :: rest)) := by
  subst hw
  exact va_putN S.1 S.2.1 S.2.2.2.2 hin ty0 hty hnm S.2.2.2.1 I.1 I.2.2.2.1 I.2.2.2.2.1 I.2.2.2.2.2 q0 he hc k hk (va_Nw.use rfl hlink) (fun _ h => h) hfin (htk ▸ hty k hk) hn hfit hl d (fun H1 locs1 hP hD hS => kk H1 locs1 ⟨I.1, I.2.1, I.2.2.1, hP, hD, hS⟩)
theorem k_iald {cA : ClassId} {n t0 j : Nat} {f : Nat → Int32} {i x : Int32} (S : CallFix p m c cc nL s args Ts own) (I : KI D cy A ww s H locs) (ha : ww[q0]? = some (a, .inl (cA, n, .inl f))) (ht : (kTy cy)[t0]? = some (cA, .int)) (hj : j < n) (hn : n < 2 ^ 31) (hi : i = nI j) (hx : f j = x) (d : decode cc pc = .ok (.iaload, 1))
    (kk : W p l e R s m args below meth c H locs cells slots Q (F0 m (pc + 1) ls (.int x :: rest))) : W p l e R s m args below meth c H locs cells slots Q (F0 m pc ls (.int i :: .ref a :: rest)) := by
  subst hi; subst hx
  refine va_iald S.1 S.2.1 I.1 I.2.2.2.1 q0 t0 ha ht (vp_in_nI hj hn) d ?_
  rw [nI_clamp (by omega)]
  exact kk
theorem k_iast {cA : ClassId} {n t0 j : Nat} {f : Nat → Int32} {i x : Int32} (S : CallFix p m c cc nL s args Ts own) (I : KI D cy A ww s H locs) (ha : ww[q0]? = some (a, .inl (cA, n, .inl f))) (ht : (kTy cy)[t0]? = some (cA, .int)) (hj : j < n) (hn : n < 2 ^ 31) (hi : i = nI j) (hw : ww.set q0 (a, .inl (cA, n, .inl (upd f j x))) = w1) (d : decode cc pc = .ok (.iastore, 1))
    (kk : ∀ (H1 : Heap) (locs1 : List Loc), KI D cy A w1 s H1 locs1 → W p l e R s m args below meth c H1 locs1 cells slots Q (F0 m (pc + 1) ls rest)) : W p l e R s m args below meth c H locs cells slots Q (F0 m pc ls (.int x :: .int i :: .ref a :: rest)) := by
  subst hi; subst hw
  refine va_iast S.1 S.2.1 I.1 I.2.2.2.1 I.2.2.2.2.1 I.2.2.2.2.2 q0 t0 ha ht (vp_in_nI hj hn) d (fun H1 locs1 hP hD hS => ?_)
  rw [nI_clamp (by omega)] at hP hD
  exact kk H1 locs1 ⟨I.1, I.2.1, I.2.2.1, hP, hD, hS⟩
theorem k_aald {cA : ClassId} {E : String} {n t0 j b : Nat} {f : Nat → Option Nat} {i : Int32} (S : CallFix p m c cc nL s args Ts own) (I : KI D cy A ww s H locs) (ha : ww[q0]? = some (a, .inl (cA, n, .inr (.inr (.inr (.inr f)))))) (ht : (kTy cy)[t0]? = some (cA, .object E)) (hj : j < n) (hn : n < 2 ^ 31) (hi : i = nI j) (hx : f j = some b) (d : decode cc pc = .ok (.aaload, 1))
    (kk : W p l e R s m args below meth c H locs cells slots Q (F0 m (pc + 1) ls (.ref b :: rest))) : W p l e R s m args below meth c H locs cells slots Q (F0 m pc ls (.int i :: .ref a :: rest)) := by
  subst hi
  refine va_aldq S.1 S.2.1 I.1 I.2.2.2.1 q0 t0 ha ht (vp_in_nI hj hn) d ?_
  rw [nI_clamp (by omega), hx]
  exact kk
end KF
end KR
end
section
/-! THE STATE: the levels' settings C (takes, then, last, value), the notes N (the row, how many), what is thrown T (kinds, numbers, height); what each method does to them -/
abbrev rC : Type := (Nat → Int32) × (Nat → Int32) × (Nat → Int32) × (Nat → Int32)
abbrev rN : Type := (Nat → Int32) × Nat
abbrev rT : Type := (Nat → Int32) × (Nat → Int32) × Nat
def lvF (ad : Nat → Nat) : Nat → Option Nat := fun j => if j < 6 then some (ad (2 + j)) else none
def rgL (C : rC) (k : Nat) : List Value := [.int (C.1 k), .int (C.2.1 k), .int (C.2.2.1 k), .int (C.2.2.2 k)]
/-- the rig's cells: itself, its row of levels, the six levels, the notes and their row, the thrown and its two rows; behind them any others -/
def rgW (ad : Nat → Nat) (cy : Nat → ClassId) (C : rC) (N : rN) (T : rT) (rn : Int32) (X : va_W) : va_W :=
  (ad 0, .inr (3, [.ref (ad 1), .ref (ad 8), .ref (ad 10), .int rn])) :: (ad 1, .inl (cy 0, 6, .inr (.inr (.inr (.inr (lvF ad)))))) ::
  (ad 2, .inr (0, rgL C 0)) :: (ad 3, .inr (0, rgL C 1)) :: (ad 4, .inr (0, rgL C 2)) :: (ad 5, .inr (0, rgL C 3)) :: (ad 6, .inr (0, rgL C 4)) :: (ad 7, .inr (0, rgL C 5)) ::
  (ad 8, .inr (1, [.ref (ad 9), .int (nI N.2)])) :: (ad 9, .inl (cy 1, 64, .inl N.1)) ::
  (ad 10, .inr (2, [.ref (ad 11), .ref (ad 12), .int (nI T.2.2)])) :: (ad 11, .inl (cy 2, 7, .inl T.1)) :: (ad 12, .inl (cy 3, 7, .inl T.2.1)) :: X
theorem rgW_lv {ad : Nat → Nat} {cy : Nat → ClassId} {C : rC} {N : rN} {T : rT} {rn : Int32} {X : va_W} {k : Nat} (hk : k < 6) : (rgW ad cy C N T rn X)[2 + k]? = some (ad (2 + k), .inr (0, rgL C k)) := by
  match k, hk with
  | 0, _ => rfl
  | 1, _ => rfl
  | 2, _ => rfl
  | 3, _ => rfl
  | 4, _ => rfl
  | 5, _ => rfl
theorem rgW_set {ad : Nat → Nat} {cy : Nat → ClassId} {C C' : rC} {N : rN} {T : rT} {rn : Int32} {X : va_W} {k : Nat} {fs : List Value} (hk : k < 6) (h0 : fs = rgL C' k) (h : ∀ j, j ≠ k → rgL C' j = rgL C j) : (rgW ad cy C N T rn X).set (2 + k) (ad (2 + k), .inr (0, fs)) = rgW ad cy C' N T rn X := by
  subst h0
  match k, hk with
  | 0, _ => simp only [rgW, List.set, h 1 (by decide), h 2 (by decide), h 3 (by decide), h 4 (by decide), h 5 (by decide)]
  | 1, _ => simp only [rgW, List.set, h 0 (by decide), h 2 (by decide), h 3 (by decide), h 4 (by decide), h 5 (by decide)]
  | 2, _ => simp only [rgW, List.set, h 0 (by decide), h 1 (by decide), h 3 (by decide), h 4 (by decide), h 5 (by decide)]
  | 3, _ => simp only [rgW, List.set, h 0 (by decide), h 1 (by decide), h 2 (by decide), h 4 (by decide), h 5 (by decide)]
  | 4, _ => simp only [rgW, List.set, h 0 (by decide), h 1 (by decide), h 2 (by decide), h 3 (by decide), h 5 (by decide)]
  | 5, _ => simp only [rgW, List.set, h 0 (by decide), h 1 (by decide), h 2 (by decide), h 3 (by decide), h 4 (by decide)]
theorem lvF_at {ad : Nat → Nat} {k : Nat} (hk : k < 6) : lvF ad k = some (ad (2 + k)) := by simp [lvF, hk]
-- what the rig does
/-- a note -/
def nt (N : rN) (x : Int32) : rN := (if N.2 < 64 then upd N.1 N.2 x else N.1, N.2 + 1)
def dpT (T : rT) : rT := (T.1, T.2.1, 0)
def wpT (T : rT) (k n : Int32) : rT := if T.2.2 < 7 then (upd T.1 T.2.2 k, upd T.2.1 T.2.2 n, T.2.2 + 1) else T
def tnT (T : rT) (k n : Int32) : rT := wpT (dpT T) k n
def kdT (T : rT) : Int32 := if 0 < T.2.2 then T.1 (T.2.2 - 1) else 0
def nbT (T : rT) : Int32 := if 0 < T.2.2 then T.2.1 (T.2.2 - 1) else 0
def csT (T : rT) : Int32 := if 0 < T.2.2 then nI (T.2.2 - 1) else 0
def lkT (T : rT) : Int32 := if 1 < T.2.2 then T.1 0 else 0
def lnT (T : rT) : Int32 := if 1 < T.2.2 then T.2.1 0 else 0
def tkB (t k : Int32) : Int32 := if k = 0 then 0 else if t &&& ((1 : Int32) <<< ((k - 1) &&& 31)) = 0 then 0 else 1
def isL (k : Int32) : Int32 := if k < 0 then 0 else if 6 ≤ k then 0 else 1
def dpN (v : Int32) : Int32 := 700 + (v - v / 100 * 100)
abbrev rS : Type := rN × rT
/-- the bottom -/
def rbF (b v : Int32) (S : rS) : rS × Int64 :=
  if b = 1 then ((S.1, tnT S.2 1 v), 0) else if b = 2 then ((S.1, tnT S.2 2 v), 0) else if b = 3 then ((S.1, tnT S.2 3 0), 0) else if b = 4 then ((S.1, tnT S.2 4 0), 0) else if b = 5 then ((S.1, tnT S.2 4 0), 0) else
  if b = 6 then (if v < 0 then ((S.1, tnT S.2 5 0), 0) else if 3 ≤ v then ((S.1, tnT S.2 5 0), 0) else (S, 7)) else
  if b = 7 then ((nt (nt (nt S.1 (dpN v)) (dpN v)) (dpN v), tnT S.2 1 v), 0) else (S, v.toInt64)
def thF (C : rC) (k : Nat) (g : Int32 → Int32 → rS → rS × Int64) (S : rS) : rS × Int64 :=
  let N := nt S.1 (100 * kdT S.2 + nI k)
  if C.2.1 k = 0 then ((N, dpT S.2), (C.2.2.2 k).toInt64) else if C.2.1 k = 1 then ((N, S.2), 0) else if C.2.1 k = 2 then ((N, wpT S.2 1 (C.2.2.2 k)), 0) else if C.2.1 k = 3 then ((N, wpT S.2 2 (C.2.2.2 k)), 0) else
  if C.2.1 k = 4 then ((N, tnT S.2 3 0), 0) else g 0 (C.2.2.2 k) (N, dpT S.2)
def laF (C : rC) (k : Nat) (a : Int64) (S : rS) : rS × Int64 :=
  let N := nt S.1 (600 + nI k)
  if C.2.2.1 k = 1 then ((N, dpT S.2), (C.2.2.2 k).toInt64) else if C.2.2.1 k = 2 then ((N, tnT S.2 1 (C.2.2.2 k)), 0) else if C.2.2.1 k = 3 then ((N, tnT S.2 3 0), 0) else ((N, S.2), a)
/-- what a level does, g being its way down -/
def dlF (C : rC) (k : Nat) (g : Int32 → Int32 → rS → rS × Int64) (b v : Int32) (S : rS) : rS × Int64 :=
  let S1 := g b v (nt S.1 (nI k), S.2)
  let S2 := if tkB (C.1 k) (kdT S1.1.2) = 0 then S1 else thF C k g S1.1
  laF C k S2.2 S2.1
/-- the way down -/
def gdF (C : rC) : Nat → Int32 → Int32 → rS → rS × Int64
  | 0, b, v, S => rbF b v S
  | k + 1, b, v, S => ((dlF C k (gdF C k) b v S).1, (dlF C k (gdF C k) b v S).2 + (C.2.2.2 (k + 1)).toInt64)
-- switches
theorem k_sw (x : Int32) (v : Int32) : x = v ∨ x ≠ v := Decidable.em _
theorem k_ti {x v : Int32} (h : x.toInt = v.toInt) : x = v := Int32.toInt_inj.mp h
theorem k_sw04 (x : Int32) : (x.toInt < 0 ∨ 4 < x.toInt) ∨ x = 0 ∨ x = 1 ∨ x = 2 ∨ x = 3 ∨ x = 4 := by
  by_cases h : x.toInt < 0 ∨ 4 < x.toInt
  · exact Or.inl h
  · have h2 : x.toInt = 0 ∨ x.toInt = 1 ∨ x.toInt = 2 ∨ x.toInt = 3 ∨ x.toInt = 4 := by omega
    rcases h2 with h | h | h | h | h
    · exact Or.inr (Or.inl (k_ti h))
    · exact Or.inr (Or.inr (Or.inl (k_ti h)))
    · exact Or.inr (Or.inr (Or.inr (Or.inl (k_ti h))))
    · exact Or.inr (Or.inr (Or.inr (Or.inr (Or.inl (k_ti h)))))
    · exact Or.inr (Or.inr (Or.inr (Or.inr (Or.inr (k_ti h)))))
theorem k_sw13 (x : Int32) : (x.toInt < 1 ∨ 3 < x.toInt) ∨ x = 1 ∨ x = 2 ∨ x = 3 := by
  by_cases h : x.toInt < 1 ∨ 3 < x.toInt
  · exact Or.inl h
  · have h2 : x.toInt = 1 ∨ x.toInt = 2 ∨ x.toInt = 3 := by omega
    rcases h2 with h | h | h
    · exact Or.inr (Or.inl (k_ti h))
    · exact Or.inr (Or.inr (Or.inl (k_ti h)))
    · exact Or.inr (Or.inr (Or.inr (k_ti h)))
theorem k_sw15 (x : Int32) : (x.toInt < 1 ∨ 5 < x.toInt) ∨ x = 1 ∨ x = 2 ∨ x = 3 ∨ x = 4 ∨ x = 5 := by
  by_cases h : x.toInt < 1 ∨ 5 < x.toInt
  · exact Or.inl h
  · have h2 : x.toInt = 1 ∨ x.toInt = 2 ∨ x.toInt = 3 ∨ x.toInt = 4 ∨ x.toInt = 5 := by omega
    rcases h2 with h | h | h | h | h
    · exact Or.inr (Or.inl (k_ti h))
    · exact Or.inr (Or.inr (Or.inl (k_ti h)))
    · exact Or.inr (Or.inr (Or.inr (Or.inl (k_ti h))))
    · exact Or.inr (Or.inr (Or.inr (Or.inr (Or.inl (k_ti h)))))
    · exact Or.inr (Or.inr (Or.inr (Or.inr (Or.inr (k_ti h)))))
theorem k_sw06 (x : Int32) : (x.toInt < 0 ∨ 6 < x.toInt) ∨ x = 0 ∨ x = 1 ∨ x = 2 ∨ x = 3 ∨ x = 4 ∨ x = 5 ∨ x = 6 := by
  by_cases h : x.toInt < 0 ∨ 6 < x.toInt
  · exact Or.inl h
  · have h2 : x.toInt = 0 ∨ x.toInt = 1 ∨ x.toInt = 2 ∨ x.toInt = 3 ∨ x.toInt = 4 ∨ x.toInt = 5 ∨ x.toInt = 6 := by omega
    rcases h2 with h | h | h | h | h | h | h
    · exact Or.inr (Or.inl (k_ti h))
    · exact Or.inr (Or.inr (Or.inl (k_ti h)))
    · exact Or.inr (Or.inr (Or.inr (Or.inl (k_ti h))))
    · exact Or.inr (Or.inr (Or.inr (Or.inr (Or.inl (k_ti h)))))
    · exact Or.inr (Or.inr (Or.inr (Or.inr (Or.inr (Or.inl (k_ti h))))))
    · exact Or.inr (Or.inr (Or.inr (Or.inr (Or.inr (Or.inr (Or.inl (k_ti h)))))))
    · exact Or.inr (Or.inr (Or.inr (Or.inr (Or.inr (Or.inr (Or.inr (k_ti h)))))))
theorem k_sw17 (x : Int32) : (x.toInt < 1 ∨ 7 < x.toInt) ∨ x = 1 ∨ x = 2 ∨ x = 3 ∨ x = 4 ∨ x = 5 ∨ x = 6 ∨ x = 7 := by
  by_cases h : x.toInt < 1 ∨ 7 < x.toInt
  · exact Or.inl h
  · have h2 : x.toInt = 1 ∨ x.toInt = 2 ∨ x.toInt = 3 ∨ x.toInt = 4 ∨ x.toInt = 5 ∨ x.toInt = 6 ∨ x.toInt = 7 := by omega
    rcases h2 with h | h | h | h | h | h | h
    · exact Or.inr (Or.inl (k_ti h))
    · exact Or.inr (Or.inr (Or.inl (k_ti h)))
    · exact Or.inr (Or.inr (Or.inr (Or.inl (k_ti h))))
    · exact Or.inr (Or.inr (Or.inr (Or.inr (Or.inl (k_ti h)))))
    · exact Or.inr (Or.inr (Or.inr (Or.inr (Or.inr (Or.inl (k_ti h))))))
    · exact Or.inr (Or.inr (Or.inr (Or.inr (Or.inr (Or.inr (Or.inl (k_ti h)))))))
    · exact Or.inr (Or.inr (Or.inr (Or.inr (Or.inr (Or.inr (Or.inr (k_ti h)))))))
/-- out of a switch's range: none of its values -/
theorem k_ne {x v : Int32} {lo hi : Int} (h : x.toInt < lo ∨ hi < x.toInt) (h2 : lo ≤ v.toInt ∧ v.toInt ≤ hi) : ¬ x = v := fun e => by subst e; omega
-- what stays small
theorem nt_2 (N : rN) (x : Int32) : (nt N x).2 = N.2 + 1 := rfl
theorem wpT_h {T : rT} {k n : Int32} (h : T.2.2 ≤ 7) : (wpT T k n).2.2 ≤ 7 := by
  unfold wpT
  split
  · exact Nat.succ_le_of_lt (by assumption)
  · exact h
theorem tnT_h (T : rT) (k n : Int32) : (tnT T k n).2.2 ≤ 7 := wpT_h (Nat.zero_le _)
theorem rbF_h (b v : Int32) (S : rS) (h : S.2.2.2 ≤ 7) : (rbF b v S).1.2.2.2 ≤ 7 ∧ (rbF b v S).1.1.2 ≤ S.1.2 + 3 := by
  unfold rbF
  repeat' split
  all_goals first | exact ⟨tnT_h _ _ _, Nat.le_add_right _ _⟩ | exact ⟨h, Nat.le_add_right _ _⟩ | exact ⟨tnT_h _ _ _, Nat.le_refl _⟩
/-- how many notes a way down makes at most -/
def cgF : Nat → Nat
  | 0 => 3
  | k + 1 => 3 + 2 * cgF k
theorem thF_h {C : rC} {k : Nat} {g : Int32 → Int32 → rS → rS × Int64} {n : Nat} (hg : ∀ b v S, S.2.2.2 ≤ 7 → (g b v S).1.2.2.2 ≤ 7 ∧ (g b v S).1.1.2 ≤ S.1.2 + n) (S : rS) (h : S.2.2.2 ≤ 7) : (thF C k g S).1.2.2.2 ≤ 7 ∧ (thF C k g S).1.1.2 ≤ S.1.2 + (1 + n) := by
  unfold thF
  dsimp only
  repeat' split
  all_goals first
    | exact ⟨tnT_h _ _ _, by rw [nt_2]; omega⟩
    | exact ⟨wpT_h h, by rw [nt_2]; omega⟩
    | exact ⟨h, by rw [nt_2]; omega⟩
    | exact ⟨Nat.zero_le _, by rw [nt_2]; omega⟩
    | exact ⟨(hg _ _ _ (Nat.zero_le _)).1, Nat.le_trans (hg _ _ _ (Nat.zero_le _)).2 (by rw [nt_2]; omega)⟩
theorem laF_h (C : rC) (k : Nat) (a : Int64) (S : rS) (h : S.2.2.2 ≤ 7) : (laF C k a S).1.2.2.2 ≤ 7 ∧ (laF C k a S).1.1.2 = S.1.2 + 1 := by
  unfold laF
  dsimp only
  repeat' split
  all_goals first
    | exact ⟨tnT_h _ _ _, rfl⟩
    | exact ⟨h, rfl⟩
    | exact ⟨Nat.zero_le _, rfl⟩
theorem dlF_h {C : rC} {k : Nat} {g : Int32 → Int32 → rS → rS × Int64} {n : Nat} (hg : ∀ b v S, S.2.2.2 ≤ 7 → (g b v S).1.2.2.2 ≤ 7 ∧ (g b v S).1.1.2 ≤ S.1.2 + n) (b v : Int32) (S : rS) (h : S.2.2.2 ≤ 7) : (dlF C k g b v S).1.2.2.2 ≤ 7 ∧ (dlF C k g b v S).1.1.2 ≤ S.1.2 + (3 + 2 * n) := by
  obtain ⟨a1, a2⟩ := hg b v (nt S.1 (nI k), S.2) h
  rw [nt_2] at a2
  unfold dlF
  dsimp only
  generalize g b v (nt S.1 (nI k), S.2) = S1 at a1 a2 ⊢
  split
  · obtain ⟨b1, b2⟩ := laF_h C k S1.2 S1.1 a1
    exact ⟨b1, by omega⟩
  · obtain ⟨c1, c2⟩ := thF_h (C := C) (k := k) hg S1.1 a1
    obtain ⟨b1, b2⟩ := laF_h C k (thF C k g S1.1).2 (thF C k g S1.1).1 c1
    exact ⟨b1, by omega⟩
theorem gdF_h (C : rC) : ∀ (k : Nat) (b v : Int32) (S : rS), S.2.2.2 ≤ 7 → (gdF C k b v S).1.2.2.2 ≤ 7 ∧ (gdF C k b v S).1.1.2 ≤ S.1.2 + cgF k := by
  intro k
  induction k with
  | zero => intro b v S h; exact rbF_h b v S h
  | succ k ih => intro b v S h; exact dlF_h ih b v S h
end
section
/-! THE RIG: its leaves, laid by wip/whole/rig1.py -/
theorem in_X0_takesKind_X0 : ∀ w ∈ u_ws RX0 TX0 4, w ∈ wsX0_takesKind := by decide +kernel
set_option maxHeartbeats 4000000 in
set_option maxRecDepth 100000 in
/-- takesKind: the bit of the kind -/
theorem c_takesKind (l : Launch) (D : va_G) (cy : Nat → ClassId) (A : Nat → Prop) (ad : Nat → Nat) (C : rC) (N : rN) (T : rT) (rn : Int32) (X : va_W) (k : Nat) (hk : k < 6) (kd : Int32) : Met l yX0_takesKind wsX0_takesKind ({ frames := 0, cells := 0, slots := 0, locals := 0 }) (va_Pc [.ref (ad (2 + k)), .int kd] (KP D cy A (rgW ad cy C N T rn X))) (va_Qi (fun (r : Int32) (_ : Unit) => r = tkB (C.1 k) kd) (fun _ => KB D cy A (rgW ad cy C N T rn X)) A) 0 0 A := by
  refine k_open (own := RX0) (maxL := 2) (ret := (some .boolean)) (by decide) rfl rfl (Nat.le_of_ble_eq_true rfl) (fun p e s m args below meth c S hr hlk I ls hl => ?_)
  obtain ⟨hx, hb, hml, hown, hts⟩ := id S
  have hl : lv_has ls 2 [(0, .ref (ad (2 + k))), (1, .int kd)] := hl
  refine lv_iload_n hx hb dX0_takesKind_0 rfl (lv_at hl 1 rfl) ?_
  refine lv_if_eq (tgt := 21) hx hb dX0_takesKind_1 (by decide) (fun c_1 => ?_) (fun c_1 => ?_)
  · refine lv_iconst (v := 0) hx hb dX0_takesKind_21 (by decide) ?_
    exact k_zret S hr hlk I (by decide) (by unfold tkB; rw [if_pos c_1]) rfl dX0_takesKind_22
  · refine lv_aload_n hx hb dX0_takesKind_4 rfl (lv_at hl 0 rfl) ?_
    refine k_get (T := TX0) (N := 4) (ci := 0) (k := 0) (q0 := (2 + k)) (v := .int (C.1 k)) S I in_X0_takesKind_X0 (rgW_lv hk) rfl (by decide) (by decide +kernel) rfl dX0_takesKind_5 ?_
    refine lv_iconst (v := 1) hx hb dX0_takesKind_8 (by decide) ?_
    refine lv_iload_n hx hb dX0_takesKind_9 rfl (lv_at hl 1 rfl) ?_
    refine lv_iconst (v := 1) hx hb dX0_takesKind_10 (by decide) ?_
    refine lv_isub hx hb dX0_takesKind_11 ?_
    refine lv_ishl hx hb dX0_takesKind_12 ?_
    refine lv_iand hx hb dX0_takesKind_13 ?_
    refine lv_if_eq (tgt := 21) hx hb dX0_takesKind_14 (by decide) (fun c_14 => ?_) (fun c_14 => ?_)
    · refine lv_iconst (v := 0) hx hb dX0_takesKind_21 (by decide) ?_
      exact k_zret S hr hlk I (by decide) (by unfold tkB; rw [if_neg c_1, if_pos c_14]) rfl dX0_takesKind_22
    · refine lv_iconst (v := 1) hx hb dX0_takesKind_17 (by decide) ?_
      refine lv_goto (tgt := 22) hx hb dX0_takesKind_18 (by decide) ?_
      exact k_zret S hr hlk I (by decide) (by unfold tkB; rw [if_neg c_1, if_neg c_14]) rfl dX0_takesKind_22
theorem in_X1_beginAnew_X1 : ∀ w ∈ u_ws RX1 TX1 2, w ∈ wsX1_beginAnew := by decide +kernel
set_option maxHeartbeats 4000000 in
set_option maxRecDepth 100000 in
/-- beginAnew: no note -/
theorem c_beginAnew (l : Launch) (D : va_G) (cy : Nat → ClassId) (A : Nat → Prop) (ad : Nat → Nat) (C : rC) (N : rN) (T : rT) (rn : Int32) (X : va_W) : Met l yX1_beginAnew wsX1_beginAnew ({ frames := 0, cells := 0, slots := 0, locals := 0 }) (va_Pc [.ref (ad 8)] (KP D cy A (rgW ad cy C N T rn X))) (va_Qv (fun (_ : Unit) => True) (fun _ => KB D cy A (rgW ad cy C (N.1, 0) T rn X)) A) 0 0 A := by
  refine k_open (own := RX1) (maxL := 1) (ret := none) (by decide) rfl rfl (Nat.le_of_ble_eq_true rfl) (fun p e s m args below meth c S hr hlk I ls hl => ?_)
  obtain ⟨hx, hb, hml, hown, hts⟩ := id S
  have hl : lv_has ls 1 [(0, .ref (ad 8))] := hl
  refine lv_aload_n hx hb dX1_beginAnew_0 rfl (lv_at hl 0 rfl) ?_
  refine lv_iconst (v := 0) hx hb dX1_beginAnew_1 (by decide) ?_
  refine k_put (T := TX1) (N := 2) (ci := 1) (k := 1) (q0 := 8) (v := .int 0) (ty := .int) (fs := [.ref (ad 9), .int (nI N.2)]) (w1 := rgW ad cy C (N.1, 0) T rn X) S I in_X1_beginAnew_X1 tyX1 tyX1_ok nmX1 rfl rfl (by decide) (by decide +kernel) rfl rfl rfl rfl (Nat.le_of_ble_eq_true rfl) rfl dX1_beginAnew_2 (fun H locs I => ?_)
  exact k_vret S hr hlk I rfl dX1_beginAnew_5
theorem in_X1_add_X1 : ∀ w ∈ u_ws RX1 TX1 2, w ∈ wsX1_add := by decide +kernel
set_option maxHeartbeats 4000000 in
set_option maxRecDepth 100000 in
/-- add: a note -/
theorem c_add (l : Launch) (D : va_G) (cy : Nat → ClassId) (A : Nat → Prop) (ad : Nat → Nat) (C : rC) (N : rN) (T : rT) (rn : Int32) (X : va_W) (hN : N.2 < 100000) (x : Int32) : Met l yX1_add wsX1_add ({ frames := 0, cells := 0, slots := 0, locals := 0 }) (va_Pc [.ref (ad 8), .int x] (KP D cy A (rgW ad cy C N T rn X))) (va_Qv (fun (_ : Unit) => True) (fun _ => KB D cy A (rgW ad cy C (nt N x) T rn X)) A) 0 0 A := by
  refine k_open (own := RX1) (maxL := 2) (ret := none) (by decide) rfl rfl (Nat.le_of_ble_eq_true rfl) (fun p e s m args below meth c S hr hlk I ls hl => ?_)
  obtain ⟨hx, hb, hml, hown, hts⟩ := id S
  have hl : lv_has ls 2 [(0, .ref (ad 8)), (1, .int x)] := hl
  refine lv_aload_n hx hb dX1_add_0 rfl (lv_at hl 0 rfl) ?_
  refine k_get (T := TX1) (N := 2) (ci := 1) (k := 1) (q0 := 8) (v := .int (nI N.2)) S I in_X1_add_X1 rfl rfl (by decide) (by decide +kernel) rfl dX1_add_1 ?_
  refine lv_aload_n hx hb dX1_add_4 rfl (lv_at hl 0 rfl) ?_
  refine k_get (T := TX1) (N := 2) (ci := 1) (k := 0) (q0 := 8) (v := .ref (ad 9)) S I in_X1_add_X1 rfl rfl (by decide) (by decide +kernel) rfl dX1_add_5 ?_
  refine va_alen hx hb I.1 I.2.2.2.1 9 1 rfl rfl (v := 64) rfl dX1_add_8 ?_
  refine lv_icmp_ge (tgt := 22) hx hb dX1_add_9 (by decide) (fun c_9 => ?_) (fun c_9 => ?_)
  · have h64 : ¬ N.2 < 64 := fun h => nI_ge h (by omega) c_9
    have e : nt N x = (N.1, N.2 + 1) := by unfold nt; rw [if_neg h64]
    refine lv_aload_n hx hb dX1_add_22 rfl (lv_at hl 0 rfl) ?_
    refine lv_dup hx hb dX1_add_23 rfl ?_
    refine k_get (T := TX1) (N := 2) (ci := 1) (k := 1) (q0 := 8) (v := .int (nI N.2)) S I in_X1_add_X1 rfl rfl (by decide) (by decide +kernel) rfl dX1_add_24 ?_
    refine lv_iconst (v := 1) hx hb dX1_add_27 (by decide) ?_
    refine lv_iadd hx hb dX1_add_28 ?_
    refine W.eq (g2 := F0 m 29 ls (.int (nI (N.2 + 1)) :: [.ref (ad 8)])) (by rw [← nI_succ]) ?_
    refine k_put (T := TX1) (N := 2) (ci := 1) (k := 1) (q0 := 8) (v := .int (nI (N.2 + 1))) (ty := .int) (fs := [.ref (ad 9), .int (nI N.2)]) (w1 := rgW ad cy C (N.1, N.2 + 1) T rn X) S I in_X1_add_X1 tyX1 tyX1_ok nmX1 rfl rfl (by decide) (by decide +kernel) rfl rfl rfl rfl (Nat.le_of_ble_eq_true rfl) rfl dX1_add_29 (fun H locs I => ?_)
    exact k_vret S hr hlk I (by rw [e]) dX1_add_32
  · have h64 : N.2 < 64 := Nat.not_le.mp fun h => c_9 (nI_le h (by omega))
    have e : nt N x = (upd N.1 N.2 x, N.2 + 1) := by unfold nt; rw [if_pos h64]
    refine lv_aload_n hx hb dX1_add_12 rfl (lv_at hl 0 rfl) ?_
    refine k_get (T := TX1) (N := 2) (ci := 1) (k := 0) (q0 := 8) (v := .ref (ad 9)) S I in_X1_add_X1 rfl rfl (by decide) (by decide +kernel) rfl dX1_add_13 ?_
    refine lv_aload_n hx hb dX1_add_16 rfl (lv_at hl 0 rfl) ?_
    refine k_get (T := TX1) (N := 2) (ci := 1) (k := 1) (q0 := 8) (v := .int (nI N.2)) S I in_X1_add_X1 rfl rfl (by decide) (by decide +kernel) rfl dX1_add_17 ?_
    refine lv_iload_n hx hb dX1_add_20 rfl (lv_at hl 1 rfl) ?_
    refine k_iast (q0 := 9) (t0 := 1) (j := N.2) (w1 := rgW ad cy C (upd N.1 N.2 x, N.2) T rn X) S I rfl rfl h64 (by decide) rfl rfl dX1_add_21 (fun H locs I => ?_)
    refine lv_aload_n hx hb dX1_add_22 rfl (lv_at hl 0 rfl) ?_
    refine lv_dup hx hb dX1_add_23 rfl ?_
    refine k_get (T := TX1) (N := 2) (ci := 1) (k := 1) (q0 := 8) (v := .int (nI (upd N.1 N.2 x, N.2).2)) S I in_X1_add_X1 rfl rfl (by decide) (by decide +kernel) rfl dX1_add_24 ?_
    refine lv_iconst (v := 1) hx hb dX1_add_27 (by decide) ?_
    refine lv_iadd hx hb dX1_add_28 ?_
    refine W.eq (g2 := F0 m 29 ls (.int (nI (N.2 + 1)) :: [.ref (ad 8)])) (by rw [← nI_succ]) ?_
    refine k_put (T := TX1) (N := 2) (ci := 1) (k := 1) (q0 := 8) (v := .int (nI (N.2 + 1))) (ty := .int) (fs := [.ref (ad 9), .int (nI (upd N.1 N.2 x, N.2).2)]) (w1 := rgW ad cy C (upd N.1 N.2 x, N.2 + 1) T rn X) S I in_X1_add_X1 tyX1 tyX1_ok nmX1 rfl rfl (by decide) (by decide +kernel) rfl rfl rfl rfl (Nat.le_of_ble_eq_true rfl) rfl dX1_add_29 (fun H locs I => ?_)
    exact k_vret S hr hlk I (by rw [e]) dX1_add_32
theorem in_X1_kept_X1 : ∀ w ∈ u_ws RX1 TX1 2, w ∈ wsX1_kept := by decide +kernel
set_option maxHeartbeats 4000000 in
set_option maxRecDepth 100000 in
/-- kept: the notes that are kept -/
theorem c_kept (l : Launch) (D : va_G) (cy : Nat → ClassId) (A : Nat → Prop) (ad : Nat → Nat) (C : rC) (N : rN) (T : rT) (rn : Int32) (X : va_W) (hN : N.2 < 100000) : Met l yX1_kept wsX1_kept ({ frames := 1, cells := 0, slots := 0, locals := 20 }) (va_Pc [.ref (ad 8)] (KP D cy A (rgW ad cy C N T rn X))) (va_Qi (fun (r : Int32) (_ : Unit) => r = if 64 < nI N.2 then 64 else nI N.2) (fun _ => KB D cy A (rgW ad cy C N T rn X)) A) 0 0 A := by
  refine k_open (own := RX1) (maxL := 1) (ret := (some .int)) (by decide) rfl rfl (Nat.le_of_ble_eq_true rfl) (fun p e s m args below meth c S hr hlk I ls hl => ?_)
  obtain ⟨hx, hb, hml, hown, hts⟩ := id S
  have hl : lv_has ls 1 [(0, .ref (ad 8))] := hl
  refine lv_aload_n hx hb dX1_kept_0 rfl (lv_at hl 0 rfl) ?_
  refine k_get (T := TX1) (N := 2) (ci := 1) (k := 1) (q0 := 8) (v := .int (nI N.2)) S I in_X1_kept_X1 rfl rfl (by decide) (by decide +kernel) rfl dX1_kept_1 ?_
  refine lv_aload_n hx hb dX1_kept_4 rfl (lv_at hl 0 rfl) ?_
  refine k_get (T := TX1) (N := 2) (ci := 1) (k := 0) (q0 := 8) (v := .ref (ad 9)) S I in_X1_kept_X1 rfl rfl (by decide) (by decide +kernel) rfl dX1_kept_5 ?_
  refine va_alen hx hb I.1 I.2.2.2.1 9 1 rfl rfl (v := 64) rfl dX1_kept_8 ?_
  refine va_mmin hx hb (hml.trans hl.1.symm) hown (hts (.methodLink RX1 19 Lib.Math.min.name) (by decide +kernel)) (hts (.static Lib.Math.min.name) (by decide +kernel)) (hts (.initialized "java/lang/Math") (by decide +kernel)) (hts (.code Lib.Math.min.name Lib.Math.min.code 2 (some .int)) (by decide +kernel)) (Nat.le_of_ble_eq_true rfl) (Nat.le_of_ble_eq_true rfl) (Nat.zero_le _) (Nat.zero_le _) dX1_kept_9 ?_
  exact k_iret S hr hlk I rfl rfl dX1_kept_12
theorem in_X2_drop_X2 : ∀ w ∈ u_ws RX2 TX2 3, w ∈ wsX2_drop := by decide +kernel
set_option maxHeartbeats 4000000 in
set_option maxRecDepth 100000 in
/-- drop: nothing thrown -/
theorem c_drop (l : Launch) (D : va_G) (cy : Nat → ClassId) (A : Nat → Prop) (ad : Nat → Nat) (C : rC) (N : rN) (T : rT) (rn : Int32) (X : va_W) : Met l yX2_drop wsX2_drop ({ frames := 0, cells := 0, slots := 0, locals := 0 }) (va_Pc [.ref (ad 10)] (KP D cy A (rgW ad cy C N T rn X))) (va_Qv (fun (_ : Unit) => True) (fun _ => KB D cy A (rgW ad cy C N (dpT T) rn X)) A) 0 0 A := by
  refine k_open (own := RX2) (maxL := 1) (ret := none) (by decide) rfl rfl (Nat.le_of_ble_eq_true rfl) (fun p e s m args below meth c S hr hlk I ls hl => ?_)
  obtain ⟨hx, hb, hml, hown, hts⟩ := id S
  have hl : lv_has ls 1 [(0, .ref (ad 10))] := hl
  refine lv_aload_n hx hb dX2_drop_0 rfl (lv_at hl 0 rfl) ?_
  refine lv_iconst (v := 0) hx hb dX2_drop_1 (by decide) ?_
  refine k_put (T := TX2) (N := 3) (ci := 2) (k := 2) (q0 := 10) (v := .int 0) (ty := .int) (fs := [.ref (ad 11), .ref (ad 12), .int (nI T.2.2)]) (w1 := rgW ad cy C N (dpT T) rn X) S I in_X2_drop_X2 tyX2 tyX2_ok nmX2 rfl rfl (by decide) (by decide +kernel) rfl rfl rfl rfl (Nat.le_of_ble_eq_true rfl) rfl dX2_drop_2 (fun H locs I => ?_)
  exact k_vret S hr hlk I rfl dX2_drop_5
theorem in_X2_wrap_X2 : ∀ w ∈ u_ws RX2 TX2 3, w ∈ wsX2_wrap := by decide +kernel
set_option maxHeartbeats 4000000 in
set_option maxRecDepth 100000 in
/-- wrap: another thing on top -/
theorem c_wrap (l : Launch) (D : va_G) (cy : Nat → ClassId) (A : Nat → Prop) (ad : Nat → Nat) (C : rC) (N : rN) (T : rT) (rn : Int32) (X : va_W) (hT : T.2.2 ≤ 7) (x y : Int32) : Met l yX2_wrap wsX2_wrap ({ frames := 0, cells := 0, slots := 0, locals := 0 }) (va_Pc [.ref (ad 10), .int x, .int y] (KP D cy A (rgW ad cy C N T rn X))) (va_Qv (fun (_ : Unit) => True) (fun _ => KB D cy A (rgW ad cy C N (wpT T x y) rn X)) A) 0 0 A := by
  refine k_open (own := RX2) (maxL := 3) (ret := none) (by decide) rfl rfl (Nat.le_of_ble_eq_true rfl) (fun p e s m args below meth c S hr hlk I ls hl => ?_)
  obtain ⟨hx, hb, hml, hown, hts⟩ := id S
  have hl : lv_has ls 3 [(0, .ref (ad 10)), (1, .int x), (2, .int y)] := hl
  refine lv_aload_n hx hb dX2_wrap_0 rfl (lv_at hl 0 rfl) ?_
  refine k_get (T := TX2) (N := 3) (ci := 2) (k := 2) (q0 := 10) (v := .int (nI T.2.2)) S I in_X2_wrap_X2 rfl rfl (by decide) (by decide +kernel) rfl dX2_wrap_1 ?_
  refine lv_bipush (v := 7) hx hb dX2_wrap_4 (by decide) ?_
  refine lv_icmp_ge (tgt := 39) hx hb dX2_wrap_6 (by decide) (fun c_6 => ?_) (fun c_6 => ?_)
  · have h7 : ¬ T.2.2 < 7 := fun h => nI_ge h (by omega) c_6
    have e : wpT T x y = T := by unfold wpT; rw [if_neg h7]
    exact k_vret S hr hlk I (by rw [e]) dX2_wrap_39
  · have h7 : T.2.2 < 7 := Nat.not_le.mp fun h => c_6 (nI_le h (by omega))
    have e : wpT T x y = (upd T.1 T.2.2 x, upd T.2.1 T.2.2 y, T.2.2 + 1) := by unfold wpT; rw [if_pos h7]
    refine lv_aload_n hx hb dX2_wrap_9 rfl (lv_at hl 0 rfl) ?_
    refine k_get (T := TX2) (N := 3) (ci := 2) (k := 0) (q0 := 10) (v := .ref (ad 11)) S I in_X2_wrap_X2 rfl rfl (by decide) (by decide +kernel) rfl dX2_wrap_10 ?_
    refine lv_aload_n hx hb dX2_wrap_13 rfl (lv_at hl 0 rfl) ?_
    refine k_get (T := TX2) (N := 3) (ci := 2) (k := 2) (q0 := 10) (v := .int (nI T.2.2)) S I in_X2_wrap_X2 rfl rfl (by decide) (by decide +kernel) rfl dX2_wrap_14 ?_
    refine lv_iload_n hx hb dX2_wrap_17 rfl (lv_at hl 1 rfl) ?_
    refine k_iast (q0 := 11) (t0 := 2) (j := T.2.2) (w1 := rgW ad cy C N (upd T.1 T.2.2 x, T.2.1, T.2.2) rn X) S I rfl rfl h7 (by decide) rfl rfl dX2_wrap_18 (fun H locs I => ?_)
    refine lv_aload_n hx hb dX2_wrap_19 rfl (lv_at hl 0 rfl) ?_
    refine k_get (T := TX2) (N := 3) (ci := 2) (k := 1) (q0 := 10) (v := .ref (ad 12)) S I in_X2_wrap_X2 rfl rfl (by decide) (by decide +kernel) rfl dX2_wrap_20 ?_
    refine lv_aload_n hx hb dX2_wrap_23 rfl (lv_at hl 0 rfl) ?_
    refine k_get (T := TX2) (N := 3) (ci := 2) (k := 2) (q0 := 10) (v := .int (nI (upd T.1 T.2.2 x, T.2.1, T.2.2).2.2)) S I in_X2_wrap_X2 rfl rfl (by decide) (by decide +kernel) rfl dX2_wrap_24 ?_
    refine lv_iload_n hx hb dX2_wrap_27 rfl (lv_at hl 2 rfl) ?_
    refine k_iast (q0 := 12) (t0 := 3) (j := (upd T.1 T.2.2 x, T.2.1, T.2.2).2.2) (w1 := rgW ad cy C N (upd T.1 T.2.2 x, upd T.2.1 T.2.2 y, T.2.2) rn X) S I rfl rfl h7 (by decide) rfl rfl dX2_wrap_28 (fun H locs I => ?_)
    refine lv_aload_n hx hb dX2_wrap_29 rfl (lv_at hl 0 rfl) ?_
    refine lv_dup hx hb dX2_wrap_30 rfl ?_
    refine k_get (T := TX2) (N := 3) (ci := 2) (k := 2) (q0 := 10) (v := .int (nI (upd T.1 T.2.2 x, upd T.2.1 T.2.2 y, T.2.2).2.2)) S I in_X2_wrap_X2 rfl rfl (by decide) (by decide +kernel) rfl dX2_wrap_31 ?_
    refine lv_iconst (v := 1) hx hb dX2_wrap_34 (by decide) ?_
    refine lv_iadd hx hb dX2_wrap_35 ?_
    refine W.eq (g2 := F0 m 36 ls (.int (nI (T.2.2 + 1)) :: [.ref (ad 10)])) (by rw [← nI_succ]) ?_
    refine k_put (T := TX2) (N := 3) (ci := 2) (k := 2) (q0 := 10) (v := .int (nI (T.2.2 + 1))) (ty := .int) (fs := [.ref (ad 11), .ref (ad 12), .int (nI (upd T.1 T.2.2 x, upd T.2.1 T.2.2 y, T.2.2).2.2)]) (w1 := rgW ad cy C N (upd T.1 T.2.2 x, upd T.2.1 T.2.2 y, T.2.2 + 1) rn X) S I in_X2_wrap_X2 tyX2 tyX2_ok nmX2 rfl rfl (by decide) (by decide +kernel) rfl rfl rfl rfl (Nat.le_of_ble_eq_true rfl) rfl dX2_wrap_36 (fun H locs I => ?_)
    exact k_vret S hr hlk I (by rw [e]) dX2_wrap_39
theorem in_X2_kind_X2 : ∀ w ∈ u_ws RX2 TX2 3, w ∈ wsX2_kind := by decide +kernel
set_option maxHeartbeats 4000000 in
set_option maxRecDepth 100000 in
/-- kind -/
theorem c_kind (l : Launch) (D : va_G) (cy : Nat → ClassId) (A : Nat → Prop) (ad : Nat → Nat) (C : rC) (N : rN) (T : rT) (rn : Int32) (X : va_W) (hT : T.2.2 ≤ 7) : Met l yX2_kind wsX2_kind ({ frames := 0, cells := 0, slots := 0, locals := 0 }) (va_Pc [.ref (ad 10)] (KP D cy A (rgW ad cy C N T rn X))) (va_Qi (fun (r : Int32) (_ : Unit) => r = kdT T) (fun _ => KB D cy A (rgW ad cy C N T rn X)) A) 0 0 A := by
  refine k_open (own := RX2) (maxL := 1) (ret := (some .int)) (by decide) rfl rfl (Nat.le_of_ble_eq_true rfl) (fun p e s m args below meth c S hr hlk I ls hl => ?_)
  obtain ⟨hx, hb, hml, hown, hts⟩ := id S
  have hl : lv_has ls 1 [(0, .ref (ad 10))] := hl
  refine lv_aload_n hx hb dX2_kind_0 rfl (lv_at hl 0 rfl) ?_
  refine k_get (T := TX2) (N := 3) (ci := 2) (k := 2) (q0 := 10) (v := .int (nI T.2.2)) S I in_X2_kind_X2 rfl rfl (by decide) (by decide +kernel) rfl dX2_kind_1 ?_
  refine lv_if_le (tgt := 21) hx hb dX2_kind_4 (by decide) (fun c_4 => ?_) (fun c_4 => ?_)
  · have h0 : ¬ 0 < T.2.2 := fun h => nI_nle h (by omega) c_4
    refine lv_iconst (v := 0) hx hb dX2_kind_21 (by decide) ?_
    exact k_iret S hr hlk I (by unfold kdT; rw [if_neg h0]) rfl dX2_kind_22
  · have h0 : 0 < T.2.2 := Nat.pos_of_ne_zero fun h => c_4 (by rw [h, nI_0]; decide)
    have e1 : nI T.2.2 - 1 = nI (T.2.2 - 1) := by rw [show T.2.2 = (T.2.2 - 1) + 1 by omega, nI_pred]; rfl
    refine lv_aload_n hx hb dX2_kind_7 rfl (lv_at hl 0 rfl) ?_
    refine k_get (T := TX2) (N := 3) (ci := 2) (k := 0) (q0 := 10) (v := .ref (ad 11)) S I in_X2_kind_X2 rfl rfl (by decide) (by decide +kernel) rfl dX2_kind_8 ?_
    refine lv_aload_n hx hb dX2_kind_11 rfl (lv_at hl 0 rfl) ?_
    refine k_get (T := TX2) (N := 3) (ci := 2) (k := 2) (q0 := 10) (v := .int (nI T.2.2)) S I in_X2_kind_X2 rfl rfl (by decide) (by decide +kernel) rfl dX2_kind_12 ?_
    refine lv_iconst (v := 1) hx hb dX2_kind_15 (by decide) ?_
    refine lv_isub hx hb dX2_kind_16 ?_
    refine W.eq (g2 := F0 m 17 ls (.int (nI (T.2.2 - 1)) :: [.ref (ad 11)])) (by rw [e1]) ?_
    refine k_iald (q0 := 11) (t0 := 2) (j := (T.2.2 - 1)) (x := T.1 (T.2.2 - 1)) S I rfl rfl (by omega) (by decide) rfl rfl dX2_kind_17 ?_
    refine lv_goto (tgt := 22) hx hb dX2_kind_18 (by decide) ?_
    exact k_iret S hr hlk I (by unfold kdT; rw [if_pos h0]) rfl dX2_kind_22
theorem in_X2_number_X2 : ∀ w ∈ u_ws RX2 TX2 3, w ∈ wsX2_number := by decide +kernel
set_option maxHeartbeats 4000000 in
set_option maxRecDepth 100000 in
/-- number -/
theorem c_number (l : Launch) (D : va_G) (cy : Nat → ClassId) (A : Nat → Prop) (ad : Nat → Nat) (C : rC) (N : rN) (T : rT) (rn : Int32) (X : va_W) (hT : T.2.2 ≤ 7) : Met l yX2_number wsX2_number ({ frames := 0, cells := 0, slots := 0, locals := 0 }) (va_Pc [.ref (ad 10)] (KP D cy A (rgW ad cy C N T rn X))) (va_Qi (fun (r : Int32) (_ : Unit) => r = nbT T) (fun _ => KB D cy A (rgW ad cy C N T rn X)) A) 0 0 A := by
  refine k_open (own := RX2) (maxL := 1) (ret := (some .int)) (by decide) rfl rfl (Nat.le_of_ble_eq_true rfl) (fun p e s m args below meth c S hr hlk I ls hl => ?_)
  obtain ⟨hx, hb, hml, hown, hts⟩ := id S
  have hl : lv_has ls 1 [(0, .ref (ad 10))] := hl
  refine lv_aload_n hx hb dX2_number_0 rfl (lv_at hl 0 rfl) ?_
  refine k_get (T := TX2) (N := 3) (ci := 2) (k := 2) (q0 := 10) (v := .int (nI T.2.2)) S I in_X2_number_X2 rfl rfl (by decide) (by decide +kernel) rfl dX2_number_1 ?_
  refine lv_if_le (tgt := 21) hx hb dX2_number_4 (by decide) (fun c_4 => ?_) (fun c_4 => ?_)
  · have h0 : ¬ 0 < T.2.2 := fun h => nI_nle h (by omega) c_4
    refine lv_iconst (v := 0) hx hb dX2_number_21 (by decide) ?_
    exact k_iret S hr hlk I (by unfold nbT; rw [if_neg h0]) rfl dX2_number_22
  · have h0 : 0 < T.2.2 := Nat.pos_of_ne_zero fun h => c_4 (by rw [h, nI_0]; decide)
    have e1 : nI T.2.2 - 1 = nI (T.2.2 - 1) := by rw [show T.2.2 = (T.2.2 - 1) + 1 by omega, nI_pred]; rfl
    refine lv_aload_n hx hb dX2_number_7 rfl (lv_at hl 0 rfl) ?_
    refine k_get (T := TX2) (N := 3) (ci := 2) (k := 1) (q0 := 10) (v := .ref (ad 12)) S I in_X2_number_X2 rfl rfl (by decide) (by decide +kernel) rfl dX2_number_8 ?_
    refine lv_aload_n hx hb dX2_number_11 rfl (lv_at hl 0 rfl) ?_
    refine k_get (T := TX2) (N := 3) (ci := 2) (k := 2) (q0 := 10) (v := .int (nI T.2.2)) S I in_X2_number_X2 rfl rfl (by decide) (by decide +kernel) rfl dX2_number_12 ?_
    refine lv_iconst (v := 1) hx hb dX2_number_15 (by decide) ?_
    refine lv_isub hx hb dX2_number_16 ?_
    refine W.eq (g2 := F0 m 17 ls (.int (nI (T.2.2 - 1)) :: [.ref (ad 12)])) (by rw [e1]) ?_
    refine k_iald (q0 := 12) (t0 := 3) (j := (T.2.2 - 1)) (x := T.2.1 (T.2.2 - 1)) S I rfl rfl (by omega) (by decide) rfl rfl dX2_number_17 ?_
    refine lv_goto (tgt := 22) hx hb dX2_number_18 (by decide) ?_
    exact k_iret S hr hlk I (by unfold nbT; rw [if_pos h0]) rfl dX2_number_22
theorem in_X2_causes_X2 : ∀ w ∈ u_ws RX2 TX2 3, w ∈ wsX2_causes := by decide +kernel
set_option maxHeartbeats 4000000 in
set_option maxRecDepth 100000 in
/-- causes -/
theorem c_causes (l : Launch) (D : va_G) (cy : Nat → ClassId) (A : Nat → Prop) (ad : Nat → Nat) (C : rC) (N : rN) (T : rT) (rn : Int32) (X : va_W) (hT : T.2.2 ≤ 7) : Met l yX2_causes wsX2_causes ({ frames := 0, cells := 0, slots := 0, locals := 0 }) (va_Pc [.ref (ad 10)] (KP D cy A (rgW ad cy C N T rn X))) (va_Qi (fun (r : Int32) (_ : Unit) => r = csT T) (fun _ => KB D cy A (rgW ad cy C N T rn X)) A) 0 0 A := by
  refine k_open (own := RX2) (maxL := 1) (ret := (some .int)) (by decide) rfl rfl (Nat.le_of_ble_eq_true rfl) (fun p e s m args below meth c S hr hlk I ls hl => ?_)
  obtain ⟨hx, hb, hml, hown, hts⟩ := id S
  have hl : lv_has ls 1 [(0, .ref (ad 10))] := hl
  refine lv_aload_n hx hb dX2_causes_0 rfl (lv_at hl 0 rfl) ?_
  refine k_get (T := TX2) (N := 3) (ci := 2) (k := 2) (q0 := 10) (v := .int (nI T.2.2)) S I in_X2_causes_X2 rfl rfl (by decide) (by decide +kernel) rfl dX2_causes_1 ?_
  refine lv_if_le (tgt := 16) hx hb dX2_causes_4 (by decide) (fun c_4 => ?_) (fun c_4 => ?_)
  · have h0 : ¬ 0 < T.2.2 := fun h => nI_nle h (by omega) c_4
    refine lv_iconst (v := 0) hx hb dX2_causes_16 (by decide) ?_
    exact k_iret S hr hlk I (by unfold csT; rw [if_neg h0]) rfl dX2_causes_17
  · have h0 : 0 < T.2.2 := Nat.pos_of_ne_zero fun h => c_4 (by rw [h, nI_0]; decide)
    have e1 : nI T.2.2 - 1 = nI (T.2.2 - 1) := by rw [show T.2.2 = (T.2.2 - 1) + 1 by omega, nI_pred]; rfl
    refine lv_aload_n hx hb dX2_causes_7 rfl (lv_at hl 0 rfl) ?_
    refine k_get (T := TX2) (N := 3) (ci := 2) (k := 2) (q0 := 10) (v := .int (nI T.2.2)) S I in_X2_causes_X2 rfl rfl (by decide) (by decide +kernel) rfl dX2_causes_8 ?_
    refine lv_iconst (v := 1) hx hb dX2_causes_11 (by decide) ?_
    refine lv_isub hx hb dX2_causes_12 ?_
    refine W.eq (g2 := F0 m 13 ls (.int (nI (T.2.2 - 1)) :: [])) (by rw [e1]) ?_
    refine lv_goto (tgt := 17) hx hb dX2_causes_13 (by decide) ?_
    exact k_iret S hr hlk I (by unfold csT; rw [if_pos h0]) rfl dX2_causes_17
theorem in_X2_lastCauseKind_X2 : ∀ w ∈ u_ws RX2 TX2 3, w ∈ wsX2_lastCauseKind := by decide +kernel
set_option maxHeartbeats 4000000 in
set_option maxRecDepth 100000 in
/-- lastCauseKind -/
theorem c_lastCauseKind (l : Launch) (D : va_G) (cy : Nat → ClassId) (A : Nat → Prop) (ad : Nat → Nat) (C : rC) (N : rN) (T : rT) (rn : Int32) (X : va_W) (hT : T.2.2 ≤ 7) : Met l yX2_lastCauseKind wsX2_lastCauseKind ({ frames := 1, cells := 0, slots := 0, locals := 30 }) (va_Pc [.ref (ad 10)] (KP D cy A (rgW ad cy C N T rn X))) (va_Qi (fun (r : Int32) (_ : Unit) => r = lkT T) (fun _ => KB D cy A (rgW ad cy C N T rn X)) A) 0 0 A := by
  refine k_open (own := RX2) (maxL := 1) (ret := (some .int)) (by decide) rfl rfl (Nat.le_of_ble_eq_true rfl) (fun p e s m args below meth c S hr hlk I ls hl => ?_)
  obtain ⟨hx, hb, hml, hown, hts⟩ := id S
  have hl : lv_has ls 1 [(0, .ref (ad 10))] := hl
  refine lv_aload_n hx hb dX2_lastCauseKind_0 rfl (lv_at hl 0 rfl) ?_
  refine k_Vi (q0 := 10) (As := []) (rest := []) (w1 := rgW ad cy C N T rn X) (G := csT T) S I (c_causes l D cy A ad C N T rn X hT) (cwV 0 hts gX2_lastCauseKind_X2_causes rfl rfl rfl (by decide +kernel) ⟨Nat.le_of_ble_eq_true rfl, Nat.le_of_ble_eq_true rfl⟩) rfl rfl rfl rfl hl.1 rfl (Nat.le_of_ble_eq_true rfl) dX2_lastCauseKind_1 ⟨Nat.zero_le _, Nat.zero_le _⟩ (fun H locs I => ?_)
  refine lv_if_le (tgt := 16) hx hb dX2_lastCauseKind_4 (by decide) (fun c_4 => ?_) (fun c_4 => ?_)
  · have h1 : ¬ 1 < T.2.2 := fun h => by
      have e : csT T = nI (T.2.2 - 1) := by unfold csT; rw [if_pos (by omega)]
      rw [e] at c_4
      exact nI_nle (n := T.2.2 - 1) (by omega) (by omega) c_4
    refine lv_iconst (v := 0) hx hb dX2_lastCauseKind_16 (by decide) ?_
    exact k_iret S hr hlk I (by unfold lkT; rw [if_neg h1]) rfl dX2_lastCauseKind_17
  · have h1 : 1 < T.2.2 := Nat.not_le.mp fun h => c_4 (by
      have e : csT T = 0 := by
        unfold csT
        split
        · rw [show T.2.2 - 1 = 0 by omega, nI_0]
        · rfl
      rw [e]; decide)
    refine lv_aload_n hx hb dX2_lastCauseKind_7 rfl (lv_at hl 0 rfl) ?_
    refine k_get (T := TX2) (N := 3) (ci := 2) (k := 0) (q0 := 10) (v := .ref (ad 11)) S I in_X2_lastCauseKind_X2 rfl rfl (by decide) (by decide +kernel) rfl dX2_lastCauseKind_8 ?_
    refine lv_iconst (v := 0) hx hb dX2_lastCauseKind_11 (by decide) ?_
    refine k_iald (q0 := 11) (t0 := 2) (j := 0) (x := T.1 0) S I rfl rfl (by decide) (by decide) (nI_0.symm) rfl dX2_lastCauseKind_12 ?_
    refine lv_goto (tgt := 17) hx hb dX2_lastCauseKind_13 (by decide) ?_
    exact k_iret S hr hlk I (by unfold lkT; rw [if_pos h1]) rfl dX2_lastCauseKind_17
theorem in_X2_lastCauseNumber_X2 : ∀ w ∈ u_ws RX2 TX2 3, w ∈ wsX2_lastCauseNumber := by decide +kernel
set_option maxHeartbeats 4000000 in
set_option maxRecDepth 100000 in
/-- lastCauseNumber -/
theorem c_lastCauseNumber (l : Launch) (D : va_G) (cy : Nat → ClassId) (A : Nat → Prop) (ad : Nat → Nat) (C : rC) (N : rN) (T : rT) (rn : Int32) (X : va_W) (hT : T.2.2 ≤ 7) : Met l yX2_lastCauseNumber wsX2_lastCauseNumber ({ frames := 1, cells := 0, slots := 0, locals := 30 }) (va_Pc [.ref (ad 10)] (KP D cy A (rgW ad cy C N T rn X))) (va_Qi (fun (r : Int32) (_ : Unit) => r = lnT T) (fun _ => KB D cy A (rgW ad cy C N T rn X)) A) 0 0 A := by
  refine k_open (own := RX2) (maxL := 1) (ret := (some .int)) (by decide) rfl rfl (Nat.le_of_ble_eq_true rfl) (fun p e s m args below meth c S hr hlk I ls hl => ?_)
  obtain ⟨hx, hb, hml, hown, hts⟩ := id S
  have hl : lv_has ls 1 [(0, .ref (ad 10))] := hl
  refine lv_aload_n hx hb dX2_lastCauseNumber_0 rfl (lv_at hl 0 rfl) ?_
  refine k_Vi (q0 := 10) (As := []) (rest := []) (w1 := rgW ad cy C N T rn X) (G := csT T) S I (c_causes l D cy A ad C N T rn X hT) (cwV 0 hts gX2_lastCauseNumber_X2_causes rfl rfl rfl (by decide +kernel) ⟨Nat.le_of_ble_eq_true rfl, Nat.le_of_ble_eq_true rfl⟩) rfl rfl rfl rfl hl.1 rfl (Nat.le_of_ble_eq_true rfl) dX2_lastCauseNumber_1 ⟨Nat.zero_le _, Nat.zero_le _⟩ (fun H locs I => ?_)
  refine lv_if_le (tgt := 16) hx hb dX2_lastCauseNumber_4 (by decide) (fun c_4 => ?_) (fun c_4 => ?_)
  · have h1 : ¬ 1 < T.2.2 := fun h => by
      have e : csT T = nI (T.2.2 - 1) := by unfold csT; rw [if_pos (by omega)]
      rw [e] at c_4
      exact nI_nle (n := T.2.2 - 1) (by omega) (by omega) c_4
    refine lv_iconst (v := 0) hx hb dX2_lastCauseNumber_16 (by decide) ?_
    exact k_iret S hr hlk I (by unfold lnT; rw [if_neg h1]) rfl dX2_lastCauseNumber_17
  · have h1 : 1 < T.2.2 := Nat.not_le.mp fun h => c_4 (by
      have e : csT T = 0 := by
        unfold csT
        split
        · rw [show T.2.2 - 1 = 0 by omega, nI_0]
        · rfl
      rw [e]; decide)
    refine lv_aload_n hx hb dX2_lastCauseNumber_7 rfl (lv_at hl 0 rfl) ?_
    refine k_get (T := TX2) (N := 3) (ci := 2) (k := 1) (q0 := 10) (v := .ref (ad 12)) S I in_X2_lastCauseNumber_X2 rfl rfl (by decide) (by decide +kernel) rfl dX2_lastCauseNumber_8 ?_
    refine lv_iconst (v := 0) hx hb dX2_lastCauseNumber_11 (by decide) ?_
    refine k_iald (q0 := 12) (t0 := 3) (j := 0) (x := T.2.1 0) S I rfl rfl (by decide) (by decide) (nI_0.symm) rfl dX2_lastCauseNumber_12 ?_
    refine lv_goto (tgt := 17) hx hb dX2_lastCauseNumber_13 (by decide) ?_
    exact k_iret S hr hlk I (by unfold lnT; rw [if_pos h1]) rfl dX2_lastCauseNumber_17
set_option maxHeartbeats 4000000 in
set_option maxRecDepth 100000 in
/-- isLevel -/
theorem c_isLevel (l : Launch) (D : va_G) (cy : Nat → ClassId) (A : Nat → Prop) (ad : Nat → Nat) (C : rC) (N : rN) (T : rT) (rn : Int32) (X : va_W) (x : Int32) : Met l yX3_isLevel wsX3_isLevel ({ frames := 0, cells := 0, slots := 0, locals := 0 }) (va_Pc [.int x] (KP D cy A (rgW ad cy C N T rn X))) (va_Qi (fun (r : Int32) (_ : Unit) => r = isL x) (fun _ => KB D cy A (rgW ad cy C N T rn X)) A) 0 0 A := by
  refine k_open (own := RX3) (maxL := 1) (ret := (some .boolean)) (by decide) rfl rfl (Nat.le_of_ble_eq_true rfl) (fun p e s m args below meth c S hr hlk I ls hl => ?_)
  obtain ⟨hx, hb, hml, hown, hts⟩ := id S
  have hl : lv_has ls 1 [(0, .int x)] := hl
  refine lv_iload_n hx hb dX3_isLevel_0 rfl (lv_at hl 0 rfl) ?_
  refine lv_if_lt (tgt := 14) hx hb dX3_isLevel_1 (by decide) (fun c_1 => ?_) (fun c_1 => ?_)
  · refine lv_iconst (v := 0) hx hb dX3_isLevel_14 (by decide) ?_
    exact k_zret S hr hlk I (by decide) (by unfold isL; rw [if_pos c_1]) rfl dX3_isLevel_15
  · refine lv_iload_n hx hb dX3_isLevel_4 rfl (lv_at hl 0 rfl) ?_
    refine lv_bipush (v := 6) hx hb dX3_isLevel_5 (by decide) ?_
    refine lv_icmp_ge (tgt := 14) hx hb dX3_isLevel_7 (by decide) (fun c_7 => ?_) (fun c_7 => ?_)
    · refine lv_iconst (v := 0) hx hb dX3_isLevel_14 (by decide) ?_
      exact k_zret S hr hlk I (by decide) (by unfold isL; rw [if_neg c_1, if_pos c_7]) rfl dX3_isLevel_15
    · refine lv_iconst (v := 1) hx hb dX3_isLevel_10 (by decide) ?_
      refine lv_goto (tgt := 15) hx hb dX3_isLevel_11 (by decide) ?_
      exact k_zret S hr hlk I (by decide) (by unfold isL; rw [if_neg c_1, if_neg c_7]) rfl dX3_isLevel_15
theorem in_X3_throwNew_X3 : ∀ w ∈ u_ws RX3 TX3 4, w ∈ wsX3_throwNew := by decide +kernel
set_option maxHeartbeats 4000000 in
set_option maxRecDepth 100000 in
/-- throwNew -/
theorem c_throwNew (l : Launch) (D : va_G) (cy : Nat → ClassId) (A : Nat → Prop) (ad : Nat → Nat) (C : rC) (N : rN) (T : rT) (rn : Int32) (X : va_W) (x y : Int32) : Met l yX3_throwNew wsX3_throwNew ({ frames := 1, cells := 0, slots := 0, locals := 30 }) (va_Pc [.ref (ad 0), .int x, .int y] (KP D cy A (rgW ad cy C N T rn X))) (va_Ql (fun (r : Int64) (_ : Unit) => r = 0) (fun _ => KB D cy A (rgW ad cy C N (tnT T x y) rn X)) A) 0 0 A := by
  refine k_open (own := RX3) (maxL := 3) (ret := (some .long)) (by decide) rfl rfl (Nat.le_of_ble_eq_true rfl) (fun p e s m args below meth c S hr hlk I ls hl => ?_)
  obtain ⟨hx, hb, hml, hown, hts⟩ := id S
  have hl : lv_has ls 3 [(0, .ref (ad 0)), (1, .int x), (2, .int y)] := hl
  refine lv_aload_n hx hb dX3_throwNew_0 rfl (lv_at hl 0 rfl) ?_
  refine k_get (T := TX3) (N := 4) (ci := 3) (k := 2) (q0 := 0) (v := .ref (ad 10)) S I in_X3_throwNew_X3 rfl rfl (by decide) (by decide +kernel) rfl dX3_throwNew_1 ?_
  refine k_Vv (q0 := 10) (As := []) (rest := []) (w1 := rgW ad cy C N (dpT T) rn X) S I (c_drop l D cy A ad C N T rn X) (cwV 0 hts gX3_throwNew_X2_drop rfl rfl rfl (by decide +kernel) ⟨Nat.le_of_ble_eq_true rfl, Nat.le_of_ble_eq_true rfl⟩) rfl rfl rfl rfl hl.1 rfl (Nat.le_of_ble_eq_true rfl) dX3_throwNew_4 ⟨Nat.zero_le _, Nat.zero_le _⟩ (fun H locs I => ?_)
  refine lv_aload_n hx hb dX3_throwNew_7 rfl (lv_at hl 0 rfl) ?_
  refine k_get (T := TX3) (N := 4) (ci := 3) (k := 2) (q0 := 0) (v := .ref (ad 10)) S I in_X3_throwNew_X3 rfl rfl (by decide) (by decide +kernel) rfl dX3_throwNew_8 ?_
  refine lv_iload_n hx hb dX3_throwNew_11 rfl (lv_at hl 1 rfl) ?_
  refine lv_iload_n hx hb dX3_throwNew_12 rfl (lv_at hl 2 rfl) ?_
  refine k_Vv (q0 := 10) (As := [.int x, .int y]) (rest := []) (w1 := rgW ad cy C N (tnT T x y) rn X) S I (c_wrap l D cy A ad C N (dpT T) rn X (Nat.zero_le _) x y) (cwV 2 hts gX3_throwNew_X2_wrap rfl rfl rfl (by decide +kernel) ⟨Nat.le_of_ble_eq_true rfl, Nat.le_of_ble_eq_true rfl⟩) rfl rfl rfl rfl hl.1 rfl (Nat.le_of_ble_eq_true rfl) dX3_throwNew_13 ⟨Nat.zero_le _, Nat.zero_le _⟩ (fun H locs I => ?_)
  refine lv_lconst (v := 0) hx hb dX3_throwNew_16 (by decide) ?_
  exact k_lret S hr hlk I rfl rfl dX3_throwNew_17
theorem in_X3_throwFromWithin_X3 : ∀ w ∈ u_ws RX3 TX3 4, w ∈ wsX3_throwFromWithin := by decide +kernel
set_option maxHeartbeats 4000000 in
set_option maxRecDepth 100000 in
/-- throwFromWithin -/
theorem c_throwFromWithin (l : Launch) (D : va_G) (cy : Nat → ClassId) (A : Nat → Prop) (ad : Nat → Nat) (C : rC) (N : rN) (T : rT) (rn : Int32) (X : va_W) (hN : N.2 < 99990) (v : Int32) : Met l yX3_throwFromWithin wsX3_throwFromWithin ({ frames := 2, cells := 0, slots := 0, locals := 60 }) (va_Pc [.ref (ad 0), .int v] (KP D cy A (rgW ad cy C N T rn X))) (va_Ql (fun (r : Int64) (_ : Unit) => r = 0) (fun _ => KB D cy A (rgW ad cy C (nt (nt (nt N (dpN v)) (dpN v)) (dpN v)) (tnT T 1 v) rn X)) A) 0 0 A := by
  refine k_open (own := RX3) (maxL := 3) (ret := (some .long)) (by decide) rfl rfl (Nat.le_of_ble_eq_true rfl) (fun p e s m args below meth c S hr hlk I ls hl => ?_)
  obtain ⟨hx, hb, hml, hown, hts⟩ := id S
  have hl : lv_has ls 3 [(0, .ref (ad 0)), (1, .int v)] := hl
  refine lv_iconst (v := 0) hx hb dX3_throwFromWithin_0 (by decide) ?_
  refine lv_istore_n (lv' := [(2, .int 0), (0, .ref (ad 0)), (1, .int v)]) hx hb dX3_throwFromWithin_1 rfl hl (by decide) rfl (fun ls hl => ?_)
  refine lv_iload_n hx hb dX3_throwFromWithin_2 rfl (lv_at hl 0 rfl) ?_
  refine lv_iconst (v := 3) hx hb dX3_throwFromWithin_3 (by decide) ?_
  refine lv_icmp_ge (tgt := 28) hx hb dX3_throwFromWithin_4 (by decide) (fun c_4 => ?_) (fun c_4 => ?_)
  · exact absurd c_4 (by decide)
  · refine lv_aload_n hx hb dX3_throwFromWithin_7 rfl (lv_at hl 1 rfl) ?_
    refine k_get (T := TX3) (N := 4) (ci := 3) (k := 1) (q0 := 0) (v := .ref (ad 8)) S I in_X3_throwFromWithin_X3 rfl rfl (by decide) (by decide +kernel) rfl dX3_throwFromWithin_8 ?_
    refine lv_sipush (v := 700) hx hb dX3_throwFromWithin_11 (by decide) ?_
    refine lv_iload_n hx hb dX3_throwFromWithin_14 rfl (lv_at hl 2 rfl) ?_
    refine lv_bipush (v := 100) hx hb dX3_throwFromWithin_15 (by decide) ?_
    refine lv_irem hx hb dX3_throwFromWithin_17 (by decide) ?_
    refine lv_iadd hx hb dX3_throwFromWithin_18 ?_
    refine k_Vv (q0 := 8) (As := [.int (700 + (v - v / 100 * 100))]) (rest := []) (w1 := rgW ad cy C (nt N (dpN v)) T rn X) S I (c_add l D cy A ad C N T rn X (by omega) (dpN v)) (cwV 1 hts gX3_throwFromWithin_X1_add rfl rfl rfl (by decide +kernel) ⟨Nat.le_of_ble_eq_true rfl, Nat.le_of_ble_eq_true rfl⟩) rfl rfl rfl rfl hl.1 rfl (Nat.le_of_ble_eq_true rfl) dX3_throwFromWithin_19 ⟨Nat.zero_le _, Nat.zero_le _⟩ (fun H locs I => ?_)
    refine lv_iinc (v := (1)) (lv' := [(2, .int (1)), (0, .ref (ad 0)), (1, .int v)]) hx hb dX3_throwFromWithin_22 hl (k := 0) rfl (by decide) (by decide) rfl (fun ls hl => ?_)
    refine lv_goto (tgt := 2) hx hb dX3_throwFromWithin_25 (by decide) ?_
    refine lv_iload_n hx hb dX3_throwFromWithin_2 rfl (lv_at hl 0 rfl) ?_
    refine lv_iconst (v := 3) hx hb dX3_throwFromWithin_3 (by decide) ?_
    refine lv_icmp_ge (tgt := 28) hx hb dX3_throwFromWithin_4 (by decide) (fun c_4 => ?_) (fun c_4 => ?_)
    · exact absurd c_4 (by decide)
    · refine lv_aload_n hx hb dX3_throwFromWithin_7 rfl (lv_at hl 1 rfl) ?_
      refine k_get (T := TX3) (N := 4) (ci := 3) (k := 1) (q0 := 0) (v := .ref (ad 8)) S I in_X3_throwFromWithin_X3 rfl rfl (by decide) (by decide +kernel) rfl dX3_throwFromWithin_8 ?_
      refine lv_sipush (v := 700) hx hb dX3_throwFromWithin_11 (by decide) ?_
      refine lv_iload_n hx hb dX3_throwFromWithin_14 rfl (lv_at hl 2 rfl) ?_
      refine lv_bipush (v := 100) hx hb dX3_throwFromWithin_15 (by decide) ?_
      refine lv_irem hx hb dX3_throwFromWithin_17 (by decide) ?_
      refine lv_iadd hx hb dX3_throwFromWithin_18 ?_
      refine k_Vv (q0 := 8) (As := [.int (700 + (v - v / 100 * 100))]) (rest := []) (w1 := rgW ad cy C (nt (nt N (dpN v)) (dpN v)) T rn X) S I (c_add l D cy A ad C (nt N (dpN v)) T rn X (by rw [nt_2]; omega) (dpN v)) (cwV 1 hts gX3_throwFromWithin_X1_add rfl rfl rfl (by decide +kernel) ⟨Nat.le_of_ble_eq_true rfl, Nat.le_of_ble_eq_true rfl⟩) rfl rfl rfl rfl hl.1 rfl (Nat.le_of_ble_eq_true rfl) dX3_throwFromWithin_19 ⟨Nat.zero_le _, Nat.zero_le _⟩ (fun H locs I => ?_)
      refine lv_iinc (v := (2)) (lv' := [(2, .int (2)), (0, .ref (ad 0)), (1, .int v)]) hx hb dX3_throwFromWithin_22 hl (k := 0) rfl (by decide) (by decide) rfl (fun ls hl => ?_)
      refine lv_goto (tgt := 2) hx hb dX3_throwFromWithin_25 (by decide) ?_
      refine lv_iload_n hx hb dX3_throwFromWithin_2 rfl (lv_at hl 0 rfl) ?_
      refine lv_iconst (v := 3) hx hb dX3_throwFromWithin_3 (by decide) ?_
      refine lv_icmp_ge (tgt := 28) hx hb dX3_throwFromWithin_4 (by decide) (fun c_4 => ?_) (fun c_4 => ?_)
      · exact absurd c_4 (by decide)
      · refine lv_aload_n hx hb dX3_throwFromWithin_7 rfl (lv_at hl 1 rfl) ?_
        refine k_get (T := TX3) (N := 4) (ci := 3) (k := 1) (q0 := 0) (v := .ref (ad 8)) S I in_X3_throwFromWithin_X3 rfl rfl (by decide) (by decide +kernel) rfl dX3_throwFromWithin_8 ?_
        refine lv_sipush (v := 700) hx hb dX3_throwFromWithin_11 (by decide) ?_
        refine lv_iload_n hx hb dX3_throwFromWithin_14 rfl (lv_at hl 2 rfl) ?_
        refine lv_bipush (v := 100) hx hb dX3_throwFromWithin_15 (by decide) ?_
        refine lv_irem hx hb dX3_throwFromWithin_17 (by decide) ?_
        refine lv_iadd hx hb dX3_throwFromWithin_18 ?_
        refine k_Vv (q0 := 8) (As := [.int (700 + (v - v / 100 * 100))]) (rest := []) (w1 := rgW ad cy C (nt (nt (nt N (dpN v)) (dpN v)) (dpN v)) T rn X) S I (c_add l D cy A ad C (nt (nt N (dpN v)) (dpN v)) T rn X (by rw [nt_2, nt_2]; omega) (dpN v)) (cwV 1 hts gX3_throwFromWithin_X1_add rfl rfl rfl (by decide +kernel) ⟨Nat.le_of_ble_eq_true rfl, Nat.le_of_ble_eq_true rfl⟩) rfl rfl rfl rfl hl.1 rfl (Nat.le_of_ble_eq_true rfl) dX3_throwFromWithin_19 ⟨Nat.zero_le _, Nat.zero_le _⟩ (fun H locs I => ?_)
        refine lv_iinc (v := (3)) (lv' := [(2, .int (3)), (0, .ref (ad 0)), (1, .int v)]) hx hb dX3_throwFromWithin_22 hl (k := 0) rfl (by decide) (by decide) rfl (fun ls hl => ?_)
        refine lv_goto (tgt := 2) hx hb dX3_throwFromWithin_25 (by decide) ?_
        refine lv_iload_n hx hb dX3_throwFromWithin_2 rfl (lv_at hl 0 rfl) ?_
        refine lv_iconst (v := 3) hx hb dX3_throwFromWithin_3 (by decide) ?_
        refine lv_icmp_ge (tgt := 28) hx hb dX3_throwFromWithin_4 (by decide) (fun c_4 => ?_) (fun c_4 => ?_)
        · refine lv_aload_n hx hb dX3_throwFromWithin_28 rfl (lv_at hl 1 rfl) ?_
          refine lv_iconst (v := 1) hx hb dX3_throwFromWithin_29 (by decide) ?_
          refine lv_iload_n hx hb dX3_throwFromWithin_30 rfl (lv_at hl 2 rfl) ?_
          refine k_Vl (q0 := 0) (As := [.int 1, .int v]) (rest := []) (w1 := rgW ad cy C (nt (nt (nt N (dpN v)) (dpN v)) (dpN v)) (tnT T 1 v) rn X) (G := 0) S I (c_throwNew l D cy A ad C (nt (nt (nt N (dpN v)) (dpN v)) (dpN v)) T rn X 1 v) (cwV 2 hts gX3_throwFromWithin_X3_throwNew rfl rfl rfl (by decide +kernel) ⟨Nat.le_of_ble_eq_true rfl, Nat.le_of_ble_eq_true rfl⟩) rfl rfl rfl rfl hl.1 rfl (Nat.le_of_ble_eq_true rfl) dX3_throwFromWithin_31 ⟨Nat.zero_le _, Nat.zero_le _⟩ (fun H locs I => ?_)
          exact k_lret S hr hlk I rfl rfl dX3_throwFromWithin_34
        · exact absurd (by decide) c_4
set_option maxHeartbeats 4000000 in
set_option maxRecDepth 100000 in
/-- reachBottom -/
theorem c_reachBottom (l : Launch) (D : va_G) (cy : Nat → ClassId) (A : Nat → Prop) (ad : Nat → Nat) (C : rC) (N : rN) (T : rT) (rn : Int32) (X : va_W) (hN : N.2 < 99990) (b v : Int32) : Met l yX3_reachBottom wsX3_reachBottom ({ frames := 3, cells := 0, slots := 0, locals := 100 }) (va_Pc [.ref (ad 0), .int b, .int v] (KP D cy A (rgW ad cy C N T rn X))) (va_Ql (fun (r : Int64) (_ : Unit) => r = (rbF b v (N, T)).2) (fun _ => KB D cy A (rgW ad cy C ((rbF b v (N, T)).1.1) ((rbF b v (N, T)).1.2) rn X)) A) 0 0 A := by
  refine k_open (own := RX3) (maxL := 3) (ret := (some .long)) (by decide) rfl rfl (Nat.le_of_ble_eq_true rfl) (fun p e s m args below meth c S hr hlk I ls hl => ?_)
  obtain ⟨hx, hb, hml, hown, hts⟩ := id S
  have hl : lv_has ls 3 [(0, .ref (ad 0)), (1, .int b), (2, .int v)] := hl
  refine lv_iload_n hx hb dX3_reachBottom_0 rfl (lv_at hl 1 rfl) ?_
  rcases k_sw17 b with c_1 | c_1 | c_1 | c_1 | c_1 | c_1 | c_1 | c_1
  · refine lv_tableOut (tgt := 100) hx hb dX3_reachBottom_1 c_1 (by decide) ?_
    refine lv_iload_n hx hb dX3_reachBottom_100 rfl (lv_at hl 2 rfl) ?_
    refine lv_i2l (v := v.toInt64) hx hb dX3_reachBottom_101 rfl ?_
    have e : rbF b v (N, T) = ((N, T), v.toInt64) := by unfold rbF; rw [if_neg (k_ne c_1 (by decide)), if_neg (k_ne c_1 (by decide)), if_neg (k_ne c_1 (by decide)), if_neg (k_ne c_1 (by decide)), if_neg (k_ne c_1 (by decide)), if_neg (k_ne c_1 (by decide)), if_neg (k_ne c_1 (by decide))]
    exact k_lret S hr hlk I (by rw [e]) (by rw [e]) dX3_reachBottom_102
  · refine lv_tableIn (tgt := 44) hx hb dX3_reachBottom_1 (by rw [c_1]; decide) (by rw [c_1]; decide) (by rw [c_1]; rfl) (by decide) ?_
    refine lv_aload_n hx hb dX3_reachBottom_44 rfl (lv_at hl 0 rfl) ?_
    refine lv_iconst (v := 1) hx hb dX3_reachBottom_45 (by decide) ?_
    refine lv_iload_n hx hb dX3_reachBottom_46 rfl (lv_at hl 2 rfl) ?_
    refine k_Vl (q0 := 0) (As := [.int 1, .int v]) (rest := []) (w1 := rgW ad cy C N (tnT T 1 v) rn X) (G := 0) S I (c_throwNew l D cy A ad C N T rn X 1 v) (cwV 2 hts gX3_reachBottom_X3_throwNew rfl rfl rfl (by decide +kernel) ⟨Nat.le_of_ble_eq_true rfl, Nat.le_of_ble_eq_true rfl⟩) rfl rfl rfl rfl hl.1 rfl (Nat.le_of_ble_eq_true rfl) dX3_reachBottom_47 ⟨Nat.zero_le _, Nat.zero_le _⟩ (fun H locs I => ?_)
    have e : rbF b v (N, T) = ((N, tnT T 1 v), 0) := by subst c_1; unfold rbF; rw [if_pos rfl]
    exact k_lret S hr hlk I (by rw [e]) (by rw [e]) dX3_reachBottom_50
  · refine lv_tableIn (tgt := 51) hx hb dX3_reachBottom_1 (by rw [c_1]; decide) (by rw [c_1]; decide) (by rw [c_1]; rfl) (by decide) ?_
    refine lv_aload_n hx hb dX3_reachBottom_51 rfl (lv_at hl 0 rfl) ?_
    refine lv_iconst (v := 2) hx hb dX3_reachBottom_52 (by decide) ?_
    refine lv_iload_n hx hb dX3_reachBottom_53 rfl (lv_at hl 2 rfl) ?_
    refine k_Vl (q0 := 0) (As := [.int 2, .int v]) (rest := []) (w1 := rgW ad cy C N (tnT T 2 v) rn X) (G := 0) S I (c_throwNew l D cy A ad C N T rn X 2 v) (cwV 2 hts gX3_reachBottom_X3_throwNew rfl rfl rfl (by decide +kernel) ⟨Nat.le_of_ble_eq_true rfl, Nat.le_of_ble_eq_true rfl⟩) rfl rfl rfl rfl hl.1 rfl (Nat.le_of_ble_eq_true rfl) dX3_reachBottom_54 ⟨Nat.zero_le _, Nat.zero_le _⟩ (fun H locs I => ?_)
    have e : rbF b v (N, T) = ((N, tnT T 2 v), 0) := by subst c_1; unfold rbF; rw [if_neg (by decide), if_pos rfl]
    exact k_lret S hr hlk I (by rw [e]) (by rw [e]) dX3_reachBottom_57
  · refine lv_tableIn (tgt := 58) hx hb dX3_reachBottom_1 (by rw [c_1]; decide) (by rw [c_1]; decide) (by rw [c_1]; rfl) (by decide) ?_
    refine lv_aload_n hx hb dX3_reachBottom_58 rfl (lv_at hl 0 rfl) ?_
    refine lv_iconst (v := 3) hx hb dX3_reachBottom_59 (by decide) ?_
    refine lv_iconst (v := 0) hx hb dX3_reachBottom_60 (by decide) ?_
    refine k_Vl (q0 := 0) (As := [.int 3, .int 0]) (rest := []) (w1 := rgW ad cy C N (tnT T 3 0) rn X) (G := 0) S I (c_throwNew l D cy A ad C N T rn X 3 0) (cwV 2 hts gX3_reachBottom_X3_throwNew rfl rfl rfl (by decide +kernel) ⟨Nat.le_of_ble_eq_true rfl, Nat.le_of_ble_eq_true rfl⟩) rfl rfl rfl rfl hl.1 rfl (Nat.le_of_ble_eq_true rfl) dX3_reachBottom_61 ⟨Nat.zero_le _, Nat.zero_le _⟩ (fun H locs I => ?_)
    have e : rbF b v (N, T) = ((N, tnT T 3 0), 0) := by subst c_1; unfold rbF; rw [if_neg (by decide), if_neg (by decide), if_pos rfl]
    exact k_lret S hr hlk I (by rw [e]) (by rw [e]) dX3_reachBottom_64
  · refine lv_tableIn (tgt := 65) hx hb dX3_reachBottom_1 (by rw [c_1]; decide) (by rw [c_1]; decide) (by rw [c_1]; rfl) (by decide) ?_
    refine lv_aload_n hx hb dX3_reachBottom_65 rfl (lv_at hl 0 rfl) ?_
    refine lv_iconst (v := 4) hx hb dX3_reachBottom_66 (by decide) ?_
    refine lv_iconst (v := 0) hx hb dX3_reachBottom_67 (by decide) ?_
    refine k_Vl (q0 := 0) (As := [.int 4, .int 0]) (rest := []) (w1 := rgW ad cy C N (tnT T 4 0) rn X) (G := 0) S I (c_throwNew l D cy A ad C N T rn X 4 0) (cwV 2 hts gX3_reachBottom_X3_throwNew rfl rfl rfl (by decide +kernel) ⟨Nat.le_of_ble_eq_true rfl, Nat.le_of_ble_eq_true rfl⟩) rfl rfl rfl rfl hl.1 rfl (Nat.le_of_ble_eq_true rfl) dX3_reachBottom_68 ⟨Nat.zero_le _, Nat.zero_le _⟩ (fun H locs I => ?_)
    have e : rbF b v (N, T) = ((N, tnT T 4 0), 0) := by subst c_1; unfold rbF; rw [if_neg (by decide), if_neg (by decide), if_neg (by decide), if_pos rfl]
    exact k_lret S hr hlk I (by rw [e]) (by rw [e]) dX3_reachBottom_71
  · refine lv_tableIn (tgt := 65) hx hb dX3_reachBottom_1 (by rw [c_1]; decide) (by rw [c_1]; decide) (by rw [c_1]; rfl) (by decide) ?_
    refine lv_aload_n hx hb dX3_reachBottom_65 rfl (lv_at hl 0 rfl) ?_
    refine lv_iconst (v := 4) hx hb dX3_reachBottom_66 (by decide) ?_
    refine lv_iconst (v := 0) hx hb dX3_reachBottom_67 (by decide) ?_
    refine k_Vl (q0 := 0) (As := [.int 4, .int 0]) (rest := []) (w1 := rgW ad cy C N (tnT T 4 0) rn X) (G := 0) S I (c_throwNew l D cy A ad C N T rn X 4 0) (cwV 2 hts gX3_reachBottom_X3_throwNew rfl rfl rfl (by decide +kernel) ⟨Nat.le_of_ble_eq_true rfl, Nat.le_of_ble_eq_true rfl⟩) rfl rfl rfl rfl hl.1 rfl (Nat.le_of_ble_eq_true rfl) dX3_reachBottom_68 ⟨Nat.zero_le _, Nat.zero_le _⟩ (fun H locs I => ?_)
    have e : rbF b v (N, T) = ((N, tnT T 4 0), 0) := by subst c_1; unfold rbF; rw [if_neg (by decide), if_neg (by decide), if_neg (by decide), if_neg (by decide), if_pos rfl]
    exact k_lret S hr hlk I (by rw [e]) (by rw [e]) dX3_reachBottom_71
  · refine lv_tableIn (tgt := 72) hx hb dX3_reachBottom_1 (by rw [c_1]; decide) (by rw [c_1]; decide) (by rw [c_1]; rfl) (by decide) ?_
    refine lv_iload_n hx hb dX3_reachBottom_72 rfl (lv_at hl 2 rfl) ?_
    refine lv_if_lt (tgt := 87) hx hb dX3_reachBottom_73 (by decide) (fun c_73 => ?_) (fun c_73 => ?_)
    · refine lv_aload_n hx hb dX3_reachBottom_87 rfl (lv_at hl 0 rfl) ?_
      refine lv_iconst (v := 5) hx hb dX3_reachBottom_88 (by decide) ?_
      refine lv_iconst (v := 0) hx hb dX3_reachBottom_89 (by decide) ?_
      refine k_Vl (q0 := 0) (As := [.int 5, .int 0]) (rest := []) (w1 := rgW ad cy C N (tnT T 5 0) rn X) (G := 0) S I (c_throwNew l D cy A ad C N T rn X 5 0) (cwV 2 hts gX3_reachBottom_X3_throwNew rfl rfl rfl (by decide +kernel) ⟨Nat.le_of_ble_eq_true rfl, Nat.le_of_ble_eq_true rfl⟩) rfl rfl rfl rfl hl.1 rfl (Nat.le_of_ble_eq_true rfl) dX3_reachBottom_90 ⟨Nat.zero_le _, Nat.zero_le _⟩ (fun H locs I => ?_)
      have e : rbF b v (N, T) = ((N, tnT T 5 0), 0) := by subst c_1; unfold rbF; rw [if_neg (by decide), if_neg (by decide), if_neg (by decide), if_neg (by decide), if_neg (by decide), if_pos rfl]; rw [if_pos c_73]
      exact k_lret S hr hlk I (by rw [e]) (by rw [e]) dX3_reachBottom_93
    · refine lv_iload_n hx hb dX3_reachBottom_76 rfl (lv_at hl 2 rfl) ?_
      refine lv_iconst (v := 3) hx hb dX3_reachBottom_77 (by decide) ?_
      refine lv_icmp_ge (tgt := 87) hx hb dX3_reachBottom_78 (by decide) (fun c_78 => ?_) (fun c_78 => ?_)
      · refine lv_aload_n hx hb dX3_reachBottom_87 rfl (lv_at hl 0 rfl) ?_
        refine lv_iconst (v := 5) hx hb dX3_reachBottom_88 (by decide) ?_
        refine lv_iconst (v := 0) hx hb dX3_reachBottom_89 (by decide) ?_
        refine k_Vl (q0 := 0) (As := [.int 5, .int 0]) (rest := []) (w1 := rgW ad cy C N (tnT T 5 0) rn X) (G := 0) S I (c_throwNew l D cy A ad C N T rn X 5 0) (cwV 2 hts gX3_reachBottom_X3_throwNew rfl rfl rfl (by decide +kernel) ⟨Nat.le_of_ble_eq_true rfl, Nat.le_of_ble_eq_true rfl⟩) rfl rfl rfl rfl hl.1 rfl (Nat.le_of_ble_eq_true rfl) dX3_reachBottom_90 ⟨Nat.zero_le _, Nat.zero_le _⟩ (fun H locs I => ?_)
        have e : rbF b v (N, T) = ((N, tnT T 5 0), 0) := by subst c_1; unfold rbF; rw [if_neg (by decide), if_neg (by decide), if_neg (by decide), if_neg (by decide), if_neg (by decide), if_pos rfl]; rw [if_neg c_73, if_pos c_78]
        exact k_lret S hr hlk I (by rw [e]) (by rw [e]) dX3_reachBottom_93
      · refine lv_ldc2 (v := 7) hx hb hown (hts _ (by decide +kernel)) dX3_reachBottom_81 ?_
        refine lv_goto (tgt := 93) hx hb dX3_reachBottom_84 (by decide) ?_
        have e : rbF b v (N, T) = ((N, T), 7) := by subst c_1; unfold rbF; rw [if_neg (by decide), if_neg (by decide), if_neg (by decide), if_neg (by decide), if_neg (by decide), if_pos rfl]; rw [if_neg c_73, if_neg c_78]
        exact k_lret S hr hlk I (by rw [e]) (by rw [e]) dX3_reachBottom_93
  · refine lv_tableIn (tgt := 94) hx hb dX3_reachBottom_1 (by rw [c_1]; decide) (by rw [c_1]; decide) (by rw [c_1]; rfl) (by decide) ?_
    refine lv_aload_n hx hb dX3_reachBottom_94 rfl (lv_at hl 0 rfl) ?_
    refine lv_iload_n hx hb dX3_reachBottom_95 rfl (lv_at hl 2 rfl) ?_
    refine k_Vl (q0 := 0) (As := [.int v]) (rest := []) (w1 := rgW ad cy C (nt (nt (nt N (dpN v)) (dpN v)) (dpN v)) (tnT T 1 v) rn X) (G := 0) S I (c_throwFromWithin l D cy A ad C N T rn X hN v) (cwV 1 hts gX3_reachBottom_X3_throwFromWithin rfl rfl rfl (by decide +kernel) ⟨Nat.le_of_ble_eq_true rfl, Nat.le_of_ble_eq_true rfl⟩) rfl rfl rfl rfl hl.1 rfl (Nat.le_of_ble_eq_true rfl) dX3_reachBottom_96 ⟨Nat.zero_le _, Nat.zero_le _⟩ (fun H locs I => ?_)
    have e : rbF b v (N, T) = ((nt (nt (nt N (dpN v)) (dpN v)) (dpN v), tnT T 1 v), 0) := by subst c_1; unfold rbF; rw [if_neg (by decide), if_neg (by decide), if_neg (by decide), if_neg (by decide), if_neg (by decide), if_neg (by decide), if_pos rfl]
    exact k_lret S hr hlk I (by rw [e]) (by rw [e]) dX3_reachBottom_99
theorem in_X3_doLast_X0 : ∀ w ∈ u_ws RX0 TX0 4, w ∈ wsX3_doLast := by decide +kernel
theorem in_X3_doLast_X3 : ∀ w ∈ u_ws RX3 TX3 4, w ∈ wsX3_doLast := by decide +kernel
set_option maxHeartbeats 4000000 in
set_option maxRecDepth 100000 in
/-- doLast -/
theorem c_doLast (l : Launch) (D : va_G) (cy : Nat → ClassId) (A : Nat → Prop) (ad : Nat → Nat) (C : rC) (N : rN) (T : rT) (rn : Int32) (X : va_W) (hN : N.2 < 99990) (hT : T.2.2 ≤ 7) (k : Nat) (hk : k < 6) (a : Int64) : Met l yX3_doLast wsX3_doLast ({ frames := 3, cells := 0, slots := 0, locals := 100 }) (va_Pc [.ref (ad 0), .int (nI k), .long a] (KP D cy A (rgW ad cy C N T rn X))) (va_Ql (fun (r : Int64) (_ : Unit) => r = (laF C k a (N, T)).2) (fun _ => KB D cy A (rgW ad cy C ((laF C k a (N, T)).1.1) ((laF C k a (N, T)).1.2) rn X)) A) 0 0 A := by
  refine k_open (own := RX3) (maxL := 5) (ret := (some .long)) (by decide) rfl rfl (Nat.le_of_ble_eq_true rfl) (fun p e s m args below meth c S hr hlk I ls hl => ?_)
  obtain ⟨hx, hb, hml, hown, hts⟩ := id S
  have hl : lv_has ls 5 [(0, .ref (ad 0)), (1, .int (nI k)), (2, .long a)] := hl
  refine lv_aload_n hx hb dX3_doLast_0 rfl (lv_at hl 0 rfl) ?_
  refine k_get (T := TX3) (N := 4) (ci := 3) (k := 0) (q0 := 0) (v := .ref (ad 1)) S I in_X3_doLast_X3 rfl rfl (by decide) (by decide +kernel) rfl dX3_doLast_1 ?_
  refine lv_iload_n hx hb dX3_doLast_4 rfl (lv_at hl 1 rfl) ?_
  refine k_aald (q0 := 1) (t0 := 0) (j := k) (b := ad (2 + k)) S I rfl rfl hk (by decide) rfl (lvF_at hk) dX3_doLast_5 ?_
  refine k_getN (T := TX0) (N := 4) (ci := 0) (k := 3) (q0 := (2 + k)) (v := .int (C.2.2.2 k)) S I in_X3_doLast_X0 (rgW_lv hk) rfl (by decide) I.2.1.1.2.2.2.2.2 rfl dX3_doLast_6 ?_
  refine lv_istore (lv' := [(4, .int (C.2.2.2 k)), (0, .ref (ad 0)), (1, .int (nI k)), (2, .long a)]) hx hb dX3_doLast_9 hl (by decide) rfl (fun ls hl => ?_)
  refine lv_aload_n hx hb dX3_doLast_11 rfl (lv_at hl 1 rfl) ?_
  refine k_get (T := TX3) (N := 4) (ci := 3) (k := 1) (q0 := 0) (v := .ref (ad 8)) S I in_X3_doLast_X3 rfl rfl (by decide) (by decide +kernel) rfl dX3_doLast_12 ?_
  refine lv_sipush (v := 600) hx hb dX3_doLast_15 (by decide) ?_
  refine lv_iload_n hx hb dX3_doLast_18 rfl (lv_at hl 2 rfl) ?_
  refine lv_iadd hx hb dX3_doLast_19 ?_
  refine k_Vv (q0 := 8) (As := [.int (600 + (nI k))]) (rest := []) (w1 := rgW ad cy C (nt N (600 + nI k)) T rn X) S I (c_add l D cy A ad C N T rn X (by omega) (600 + nI k)) (cwV 1 hts gX3_doLast_X1_add rfl rfl rfl (by decide +kernel) ⟨Nat.le_of_ble_eq_true rfl, Nat.le_of_ble_eq_true rfl⟩) rfl rfl rfl rfl hl.1 rfl (Nat.le_of_ble_eq_true rfl) dX3_doLast_20 ⟨Nat.zero_le _, Nat.zero_le _⟩ (fun H locs I => ?_)
  refine lv_aload_n hx hb dX3_doLast_23 rfl (lv_at hl 1 rfl) ?_
  refine k_get (T := TX3) (N := 4) (ci := 3) (k := 0) (q0 := 0) (v := .ref (ad 1)) S I in_X3_doLast_X3 rfl rfl (by decide) (by decide +kernel) rfl dX3_doLast_24 ?_
  refine lv_iload_n hx hb dX3_doLast_27 rfl (lv_at hl 2 rfl) ?_
  refine k_aald (q0 := 1) (t0 := 0) (j := k) (b := ad (2 + k)) S I rfl rfl hk (by decide) rfl (lvF_at hk) dX3_doLast_28 ?_
  refine k_getN (T := TX0) (N := 4) (ci := 0) (k := 2) (q0 := (2 + k)) (v := .int (C.2.2.1 k)) S I in_X3_doLast_X0 (rgW_lv hk) rfl (by decide) I.2.1.1.2.2.2.2.1 rfl dX3_doLast_29 ?_
  rcases k_sw13 (C.2.2.1 k) with c_32 | c_32 | c_32 | c_32
  · refine lv_tableOut (tgt := 86) hx hb dX3_doLast_32 c_32 (by decide) ?_
    refine lv_lload_n hx hb dX3_doLast_86 rfl (lv_at hl 3 rfl) ?_
    have e : laF C k a (N, T) = ((nt N (600 + nI k), T), a) := by unfold laF; dsimp only; rw [if_neg (k_ne c_32 (by decide)), if_neg (k_ne c_32 (by decide)), if_neg (k_ne c_32 (by decide))]
    exact k_lret S hr hlk I (by rw [e]) (by rw [e]) dX3_doLast_87
  · refine lv_tableIn (tgt := 60) hx hb dX3_doLast_32 (by rw [c_32]; decide) (by rw [c_32]; decide) (by rw [c_32]; rfl) (by decide) ?_
    refine lv_aload_n hx hb dX3_doLast_60 rfl (lv_at hl 1 rfl) ?_
    refine k_get (T := TX3) (N := 4) (ci := 3) (k := 2) (q0 := 0) (v := .ref (ad 10)) S I in_X3_doLast_X3 rfl rfl (by decide) (by decide +kernel) rfl dX3_doLast_61 ?_
    refine k_Vv (q0 := 10) (As := []) (rest := []) (w1 := rgW ad cy C (nt N (600 + nI k)) (dpT T) rn X) S I (c_drop l D cy A ad C (nt N (600 + nI k)) T rn X) (cwV 0 hts gX3_doLast_X2_drop rfl rfl rfl (by decide +kernel) ⟨Nat.le_of_ble_eq_true rfl, Nat.le_of_ble_eq_true rfl⟩) rfl rfl rfl rfl hl.1 rfl (Nat.le_of_ble_eq_true rfl) dX3_doLast_64 ⟨Nat.zero_le _, Nat.zero_le _⟩ (fun H locs I => ?_)
    refine lv_iload hx hb dX3_doLast_67 (lv_at hl 0 rfl) ?_
    refine lv_i2l (v := (C.2.2.2 k).toInt64) hx hb dX3_doLast_69 rfl ?_
    have e : laF C k a (N, T) = ((nt N (600 + nI k), dpT T), (C.2.2.2 k).toInt64) := by unfold laF; dsimp only; rw [if_pos c_32]
    exact k_lret S hr hlk I (by rw [e]) (by rw [e]) dX3_doLast_70
  · refine lv_tableIn (tgt := 71) hx hb dX3_doLast_32 (by rw [c_32]; decide) (by rw [c_32]; decide) (by rw [c_32]; rfl) (by decide) ?_
    refine lv_aload_n hx hb dX3_doLast_71 rfl (lv_at hl 1 rfl) ?_
    refine lv_iconst (v := 1) hx hb dX3_doLast_72 (by decide) ?_
    refine lv_iload hx hb dX3_doLast_73 (lv_at hl 0 rfl) ?_
    refine k_Vl (q0 := 0) (As := [.int 1, .int (C.2.2.2 k)]) (rest := []) (w1 := rgW ad cy C (nt N (600 + nI k)) (tnT T 1 (C.2.2.2 k)) rn X) (G := 0) S I (c_throwNew l D cy A ad C (nt N (600 + nI k)) T rn X 1 (C.2.2.2 k)) (cwV 2 hts gX3_doLast_X3_throwNew rfl rfl rfl (by decide +kernel) ⟨Nat.le_of_ble_eq_true rfl, Nat.le_of_ble_eq_true rfl⟩) rfl rfl rfl rfl hl.1 rfl (Nat.le_of_ble_eq_true rfl) dX3_doLast_75 ⟨Nat.zero_le _, Nat.zero_le _⟩ (fun H locs I => ?_)
    have e : laF C k a (N, T) = ((nt N (600 + nI k), tnT T 1 (C.2.2.2 k)), 0) := by unfold laF; dsimp only; rw [if_neg (by rw [c_32]; decide), if_pos c_32]
    exact k_lret S hr hlk I (by rw [e]) (by rw [e]) dX3_doLast_78
  · refine lv_tableIn (tgt := 79) hx hb dX3_doLast_32 (by rw [c_32]; decide) (by rw [c_32]; decide) (by rw [c_32]; rfl) (by decide) ?_
    refine lv_aload_n hx hb dX3_doLast_79 rfl (lv_at hl 1 rfl) ?_
    refine lv_iconst (v := 3) hx hb dX3_doLast_80 (by decide) ?_
    refine lv_iconst (v := 0) hx hb dX3_doLast_81 (by decide) ?_
    refine k_Vl (q0 := 0) (As := [.int 3, .int 0]) (rest := []) (w1 := rgW ad cy C (nt N (600 + nI k)) (tnT T 3 0) rn X) (G := 0) S I (c_throwNew l D cy A ad C (nt N (600 + nI k)) T rn X 3 0) (cwV 2 hts gX3_doLast_X3_throwNew rfl rfl rfl (by decide +kernel) ⟨Nat.le_of_ble_eq_true rfl, Nat.le_of_ble_eq_true rfl⟩) rfl rfl rfl rfl hl.1 rfl (Nat.le_of_ble_eq_true rfl) dX3_doLast_82 ⟨Nat.zero_le _, Nat.zero_le _⟩ (fun H locs I => ?_)
    have e : laF C k a (N, T) = ((nt N (600 + nI k), tnT T 3 0), 0) := by unfold laF; dsimp only; rw [if_neg (by rw [c_32]; decide), if_neg (by rw [c_32]; decide), if_pos c_32]
    exact k_lret S hr hlk I (by rw [e]) (by rw [e]) dX3_doLast_85
end
section
/-! THE RIG: the recursion, laid by wip/whole/rig2.py -/
/-- the way down from level k, as a contract for every state -/
def rGD (l : Launch) (D : va_G) (cy : Nat → ClassId) (A : Nat → Prop) (ad : Nat → Nat) (C : rC) (rn : Int32) (X : va_W) (k : Nat) : Prop := ∀ (N : rN) (T : rT) (b v : Int32), N.2 + cgF k < 99000 → T.2.2 ≤ 7 →
  Met l yX3_goDown wsX3_goDown ({ frames := 10 + 10 * k, cells := 0, slots := 0, locals := 400 + 400 * k }) (va_Pc [.ref (ad 0), .int (nI k), .int b, .int v] (KP D cy A (rgW ad cy C N T rn X))) (va_Ql (fun (r : Int64) (_ : Unit) => r = (gdF C k b v (N, T)).2) (fun _ => KB D cy A (rgW ad cy C (gdF C k b v (N, T)).1.1 (gdF C k b v (N, T)).1.2 rn X)) A) 0 0 A
/-- what level k does -/
def rDL (l : Launch) (D : va_G) (cy : Nat → ClassId) (A : Nat → Prop) (ad : Nat → Nat) (C : rC) (rn : Int32) (X : va_W) (k : Nat) : Prop := ∀ (N : rN) (T : rT) (b v : Int32), N.2 + (3 + 2 * cgF k) < 99000 → T.2.2 ≤ 7 →
  Met l yX3_doLevel wsX3_doLevel ({ frames := 16 + 10 * k, cells := 0, slots := 0, locals := 700 + 400 * k }) (va_Pc [.ref (ad 0), .int (nI k), .int b, .int v] (KP D cy A (rgW ad cy C N T rn X))) (va_Ql (fun (r : Int64) (_ : Unit) => r = (dlF C k (gdF C k) b v (N, T)).2) (fun _ => KB D cy A (rgW ad cy C (dlF C k (gdF C k) b v (N, T)).1.1 (dlF C k (gdF C k) b v (N, T)).1.2 rn X)) A) 0 0 A
theorem in_X3_doThen_X0 : ∀ w ∈ u_ws RX0 TX0 4, w ∈ wsX3_doThen := by decide +kernel
theorem in_X3_doThen_X3 : ∀ w ∈ u_ws RX3 TX3 4, w ∈ wsX3_doThen := by decide +kernel
set_option maxHeartbeats 4000000 in
set_option maxRecDepth 100000 in
/-- doThen, the way down given -/
theorem c_doThen (l : Launch) (D : va_G) (cy : Nat → ClassId) (A : Nat → Prop) (ad : Nat → Nat) (C : rC) (N : rN) (T : rT) (rn : Int32) (X : va_W) (k : Nat) (hk : k < 6) (hG : rGD l D cy A ad C rn X k) (hN : N.2 + (1 + cgF k) < 99000) (hT : T.2.2 ≤ 7) : Met l yX3_doThen wsX3_doThen ({ frames := 13 + 10 * k, cells := 0, slots := 0, locals := 550 + 400 * k }) (va_Pc [.ref (ad 0), .int (nI k)] (KP D cy A (rgW ad cy C N T rn X))) (va_Ql (fun (r : Int64) (_ : Unit) => r = (thF C k (gdF C k) (N, T)).2) (fun _ => KB D cy A (rgW ad cy C ((thF C k (gdF C k) (N, T)).1.1) ((thF C k (gdF C k) (N, T)).1.2) rn X)) A) 0 0 A := by
  refine k_open (own := RX3) (maxL := 3) (ret := (some .long)) (by decide) rfl rfl (Nat.le_of_ble_eq_true rfl) (fun p e s m args below meth c S hr hlk I ls hl => ?_)
  obtain ⟨hx, hb, hml, hown, hts⟩ := id S
  have hl : lv_has ls 3 [(0, .ref (ad 0)), (1, .int (nI k))] := hl
  refine lv_aload_n hx hb dX3_doThen_0 rfl (lv_at hl 0 rfl) ?_
  refine k_get (T := TX3) (N := 4) (ci := 3) (k := 0) (q0 := 0) (v := .ref (ad 1)) S I in_X3_doThen_X3 rfl rfl (by decide) (by decide +kernel) rfl dX3_doThen_1 ?_
  refine lv_iload_n hx hb dX3_doThen_4 rfl (lv_at hl 1 rfl) ?_
  refine k_aald (q0 := 1) (t0 := 0) (j := k) (b := ad (2 + k)) S I rfl rfl hk (by decide) rfl (lvF_at hk) dX3_doThen_5 ?_
  refine k_getN (T := TX0) (N := 4) (ci := 0) (k := 3) (q0 := (2 + k)) (v := .int (C.2.2.2 k)) S I in_X3_doThen_X0 (rgW_lv hk) rfl (by decide) I.2.1.1.2.2.2.2.2 rfl dX3_doThen_6 ?_
  refine lv_istore_n (lv' := [(2, .int (C.2.2.2 k)), (0, .ref (ad 0)), (1, .int (nI k))]) hx hb dX3_doThen_9 rfl hl (by decide) rfl (fun ls hl => ?_)
  refine lv_aload_n hx hb dX3_doThen_10 rfl (lv_at hl 1 rfl) ?_
  refine k_get (T := TX3) (N := 4) (ci := 3) (k := 1) (q0 := 0) (v := .ref (ad 8)) S I in_X3_doThen_X3 rfl rfl (by decide) (by decide +kernel) rfl dX3_doThen_11 ?_
  refine lv_bipush (v := 100) hx hb dX3_doThen_14 (by decide) ?_
  refine lv_aload_n hx hb dX3_doThen_16 rfl (lv_at hl 1 rfl) ?_
  refine k_get (T := TX3) (N := 4) (ci := 3) (k := 2) (q0 := 0) (v := .ref (ad 10)) S I in_X3_doThen_X3 rfl rfl (by decide) (by decide +kernel) rfl dX3_doThen_17 ?_
  refine k_Vi (q0 := 10) (As := []) (rest := [.int 100, .ref (ad 8)]) (w1 := rgW ad cy C N T rn X) (G := kdT T) S I (c_kind l D cy A ad C N T rn X hT) (cwV 0 hts gX3_doThen_X2_kind rfl rfl rfl (by decide +kernel) ⟨by show 0 + 1 ≤ 13 + 10 * k; omega, by show 8 + (1 + 11) + 0 ≤ 550 + 400 * k; omega⟩) rfl rfl rfl rfl hl.1 rfl (Nat.le_of_ble_eq_true rfl) dX3_doThen_20 ⟨Nat.zero_le _, Nat.zero_le _⟩ (fun H locs I => ?_)
  refine lv_imul hx hb dX3_doThen_23 ?_
  refine lv_iload_n hx hb dX3_doThen_24 rfl (lv_at hl 2 rfl) ?_
  refine lv_iadd hx hb dX3_doThen_25 ?_
  refine k_Vv (q0 := 8) (As := [.int ((100 * (kdT T)) + (nI k))]) (rest := []) (w1 := rgW ad cy C (nt N (100 * kdT T + nI k)) T rn X) S I (c_add l D cy A ad C N T rn X (by omega) (100 * kdT T + nI k)) (cwV 1 hts gX3_doThen_X1_add rfl rfl rfl (by decide +kernel) ⟨by show 0 + 1 ≤ 13 + 10 * k; omega, by show 8 + (2 + 11) + 0 ≤ 550 + 400 * k; omega⟩) rfl rfl rfl rfl hl.1 rfl (Nat.le_of_ble_eq_true rfl) dX3_doThen_26 ⟨Nat.zero_le _, Nat.zero_le _⟩ (fun H locs I => ?_)
  refine lv_aload_n hx hb dX3_doThen_29 rfl (lv_at hl 1 rfl) ?_
  refine k_get (T := TX3) (N := 4) (ci := 3) (k := 0) (q0 := 0) (v := .ref (ad 1)) S I in_X3_doThen_X3 rfl rfl (by decide) (by decide +kernel) rfl dX3_doThen_30 ?_
  refine lv_iload_n hx hb dX3_doThen_33 rfl (lv_at hl 2 rfl) ?_
  refine k_aald (q0 := 1) (t0 := 0) (j := k) (b := ad (2 + k)) S I rfl rfl hk (by decide) rfl (lvF_at hk) dX3_doThen_34 ?_
  refine k_getN (T := TX0) (N := 4) (ci := 0) (k := 1) (q0 := (2 + k)) (v := .int (C.2.1 k)) S I in_X3_doThen_X0 (rgW_lv hk) rfl (by decide) I.2.1.1.2.2.2.1 rfl dX3_doThen_35 ?_
  rcases k_sw04 (C.2.1 k) with c_38 | c_38 | c_38 | c_38 | c_38 | c_38
  · refine lv_tableOut (tgt := 113) hx hb dX3_doThen_38 c_38 (by decide) ?_
    refine lv_aload_n hx hb dX3_doThen_113 rfl (lv_at hl 1 rfl) ?_
    refine k_get (T := TX3) (N := 4) (ci := 3) (k := 2) (q0 := 0) (v := .ref (ad 10)) S I in_X3_doThen_X3 rfl rfl (by decide) (by decide +kernel) rfl dX3_doThen_114 ?_
    refine k_Vv (q0 := 10) (As := []) (rest := []) (w1 := rgW ad cy C (nt N (100 * kdT T + nI k)) (dpT T) rn X) S I (c_drop l D cy A ad C (nt N (100 * kdT T + nI k)) T rn X) (cwV 0 hts gX3_doThen_X2_drop rfl rfl rfl (by decide +kernel) ⟨by show 0 + 1 ≤ 13 + 10 * k; omega, by show 8 + (1 + 11) + 0 ≤ 550 + 400 * k; omega⟩) rfl rfl rfl rfl hl.1 rfl (Nat.le_of_ble_eq_true rfl) dX3_doThen_117 ⟨Nat.zero_le _, Nat.zero_le _⟩ (fun H locs I => ?_)
    refine lv_aload_n hx hb dX3_doThen_120 rfl (lv_at hl 1 rfl) ?_
    refine lv_iload_n hx hb dX3_doThen_121 rfl (lv_at hl 2 rfl) ?_
    refine lv_iconst (v := 0) hx hb dX3_doThen_122 (by decide) ?_
    refine lv_iload_n hx hb dX3_doThen_123 rfl (lv_at hl 0 rfl) ?_
    refine k_Vl (q0 := 0) (As := [.int (nI k), .int 0, .int (C.2.2.2 k)]) (rest := []) (w1 := rgW ad cy C ((gdF C k 0 (C.2.2.2 k) (nt N (100 * kdT T + nI k), dpT T)).1.1) ((gdF C k 0 (C.2.2.2 k) (nt N (100 * kdT T + nI k), dpT T)).1.2) rn X) (G := (gdF C k 0 (C.2.2.2 k) (nt N (100 * kdT T + nI k), dpT T)).2) S I (hG (nt N (100 * kdT T + nI k)) (dpT T) 0 (C.2.2.2 k) (by rw [nt_2]; omega) (Nat.zero_le _)) (cwV 3 hts gX3_doThen_X3_goDown rfl rfl rfl (by decide +kernel) ⟨by show 10 + 10 * k + 1 ≤ 13 + 10 * k; omega, by show 8 + (4 + 11) + (400 + 400 * k) ≤ 550 + 400 * k; omega⟩) rfl rfl rfl rfl hl.1 rfl (Nat.le_of_ble_eq_true rfl) dX3_doThen_124 ⟨Nat.zero_le _, Nat.zero_le _⟩ (fun H locs I => ?_)
    have e : thF C k (gdF C k) (N, T) = (gdF C k 0 (C.2.2.2 k) (nt N (100 * kdT T + nI k), dpT T)) := by unfold thF; dsimp only; rw [if_neg (k_ne c_38 (by decide)), if_neg (k_ne c_38 (by decide)), if_neg (k_ne c_38 (by decide)), if_neg (k_ne c_38 (by decide)), if_neg (k_ne c_38 (by decide))]
    exact k_lret S hr hlk I (by rw [e]) (by rw [e]) dX3_doThen_127
  · refine lv_tableIn (tgt := 72) hx hb dX3_doThen_38 (by rw [c_38]; decide) (by rw [c_38]; decide) (by rw [c_38]; rfl) (by decide) ?_
    refine lv_aload_n hx hb dX3_doThen_72 rfl (lv_at hl 1 rfl) ?_
    refine k_get (T := TX3) (N := 4) (ci := 3) (k := 2) (q0 := 0) (v := .ref (ad 10)) S I in_X3_doThen_X3 rfl rfl (by decide) (by decide +kernel) rfl dX3_doThen_73 ?_
    refine k_Vv (q0 := 10) (As := []) (rest := []) (w1 := rgW ad cy C (nt N (100 * kdT T + nI k)) (dpT T) rn X) S I (c_drop l D cy A ad C (nt N (100 * kdT T + nI k)) T rn X) (cwV 0 hts gX3_doThen_X2_drop rfl rfl rfl (by decide +kernel) ⟨by show 0 + 1 ≤ 13 + 10 * k; omega, by show 8 + (1 + 11) + 0 ≤ 550 + 400 * k; omega⟩) rfl rfl rfl rfl hl.1 rfl (Nat.le_of_ble_eq_true rfl) dX3_doThen_76 ⟨Nat.zero_le _, Nat.zero_le _⟩ (fun H locs I => ?_)
    refine lv_iload_n hx hb dX3_doThen_79 rfl (lv_at hl 0 rfl) ?_
    refine lv_i2l (v := (C.2.2.2 k).toInt64) hx hb dX3_doThen_80 rfl ?_
    have e : thF C k (gdF C k) (N, T) = ((nt N (100 * kdT T + nI k), dpT T), (C.2.2.2 k).toInt64) := by unfold thF; dsimp only; rw [if_pos c_38]
    exact k_lret S hr hlk I (by rw [e]) (by rw [e]) dX3_doThen_81
  · refine lv_tableIn (tgt := 82) hx hb dX3_doThen_38 (by rw [c_38]; decide) (by rw [c_38]; decide) (by rw [c_38]; rfl) (by decide) ?_
    refine lv_lconst (v := 0) hx hb dX3_doThen_82 (by decide) ?_
    have e : thF C k (gdF C k) (N, T) = ((nt N (100 * kdT T + nI k), T), 0) := by unfold thF; dsimp only; rw [if_neg (by rw [c_38]; decide), if_pos c_38]
    exact k_lret S hr hlk I (by rw [e]) (by rw [e]) dX3_doThen_83
  · refine lv_tableIn (tgt := 84) hx hb dX3_doThen_38 (by rw [c_38]; decide) (by rw [c_38]; decide) (by rw [c_38]; rfl) (by decide) ?_
    refine lv_aload_n hx hb dX3_doThen_84 rfl (lv_at hl 1 rfl) ?_
    refine k_get (T := TX3) (N := 4) (ci := 3) (k := 2) (q0 := 0) (v := .ref (ad 10)) S I in_X3_doThen_X3 rfl rfl (by decide) (by decide +kernel) rfl dX3_doThen_85 ?_
    refine lv_iconst (v := 1) hx hb dX3_doThen_88 (by decide) ?_
    refine lv_iload_n hx hb dX3_doThen_89 rfl (lv_at hl 0 rfl) ?_
    refine k_Vv (q0 := 10) (As := [.int 1, .int (C.2.2.2 k)]) (rest := []) (w1 := rgW ad cy C (nt N (100 * kdT T + nI k)) (wpT T 1 (C.2.2.2 k)) rn X) S I (c_wrap l D cy A ad C (nt N (100 * kdT T + nI k)) T rn X hT 1 (C.2.2.2 k)) (cwV 2 hts gX3_doThen_X2_wrap rfl rfl rfl (by decide +kernel) ⟨by show 0 + 1 ≤ 13 + 10 * k; omega, by show 8 + (3 + 11) + 0 ≤ 550 + 400 * k; omega⟩) rfl rfl rfl rfl hl.1 rfl (Nat.le_of_ble_eq_true rfl) dX3_doThen_90 ⟨Nat.zero_le _, Nat.zero_le _⟩ (fun H locs I => ?_)
    refine lv_lconst (v := 0) hx hb dX3_doThen_93 (by decide) ?_
    have e : thF C k (gdF C k) (N, T) = ((nt N (100 * kdT T + nI k), wpT T 1 (C.2.2.2 k)), 0) := by unfold thF; dsimp only; rw [if_neg (by rw [c_38]; decide), if_neg (by rw [c_38]; decide), if_pos c_38]
    exact k_lret S hr hlk I (by rw [e]) (by rw [e]) dX3_doThen_94
  · refine lv_tableIn (tgt := 95) hx hb dX3_doThen_38 (by rw [c_38]; decide) (by rw [c_38]; decide) (by rw [c_38]; rfl) (by decide) ?_
    refine lv_aload_n hx hb dX3_doThen_95 rfl (lv_at hl 1 rfl) ?_
    refine k_get (T := TX3) (N := 4) (ci := 3) (k := 2) (q0 := 0) (v := .ref (ad 10)) S I in_X3_doThen_X3 rfl rfl (by decide) (by decide +kernel) rfl dX3_doThen_96 ?_
    refine lv_iconst (v := 2) hx hb dX3_doThen_99 (by decide) ?_
    refine lv_iload_n hx hb dX3_doThen_100 rfl (lv_at hl 0 rfl) ?_
    refine k_Vv (q0 := 10) (As := [.int 2, .int (C.2.2.2 k)]) (rest := []) (w1 := rgW ad cy C (nt N (100 * kdT T + nI k)) (wpT T 2 (C.2.2.2 k)) rn X) S I (c_wrap l D cy A ad C (nt N (100 * kdT T + nI k)) T rn X hT 2 (C.2.2.2 k)) (cwV 2 hts gX3_doThen_X2_wrap rfl rfl rfl (by decide +kernel) ⟨by show 0 + 1 ≤ 13 + 10 * k; omega, by show 8 + (3 + 11) + 0 ≤ 550 + 400 * k; omega⟩) rfl rfl rfl rfl hl.1 rfl (Nat.le_of_ble_eq_true rfl) dX3_doThen_101 ⟨Nat.zero_le _, Nat.zero_le _⟩ (fun H locs I => ?_)
    refine lv_lconst (v := 0) hx hb dX3_doThen_104 (by decide) ?_
    have e : thF C k (gdF C k) (N, T) = ((nt N (100 * kdT T + nI k), wpT T 2 (C.2.2.2 k)), 0) := by unfold thF; dsimp only; rw [if_neg (by rw [c_38]; decide), if_neg (by rw [c_38]; decide), if_neg (by rw [c_38]; decide), if_pos c_38]
    exact k_lret S hr hlk I (by rw [e]) (by rw [e]) dX3_doThen_105
  · refine lv_tableIn (tgt := 106) hx hb dX3_doThen_38 (by rw [c_38]; decide) (by rw [c_38]; decide) (by rw [c_38]; rfl) (by decide) ?_
    refine lv_aload_n hx hb dX3_doThen_106 rfl (lv_at hl 1 rfl) ?_
    refine lv_iconst (v := 3) hx hb dX3_doThen_107 (by decide) ?_
    refine lv_iconst (v := 0) hx hb dX3_doThen_108 (by decide) ?_
    refine k_Vl (q0 := 0) (As := [.int 3, .int 0]) (rest := []) (w1 := rgW ad cy C (nt N (100 * kdT T + nI k)) (tnT T 3 0) rn X) (G := 0) S I (c_throwNew l D cy A ad C (nt N (100 * kdT T + nI k)) T rn X 3 0) (cwV 2 hts gX3_doThen_X3_throwNew rfl rfl rfl (by decide +kernel) ⟨by show 1 + 1 ≤ 13 + 10 * k; omega, by show 8 + (3 + 11) + 30 ≤ 550 + 400 * k; omega⟩) rfl rfl rfl rfl hl.1 rfl (Nat.le_of_ble_eq_true rfl) dX3_doThen_109 ⟨Nat.zero_le _, Nat.zero_le _⟩ (fun H locs I => ?_)
    have e : thF C k (gdF C k) (N, T) = ((nt N (100 * kdT T + nI k), tnT T 3 0), 0) := by unfold thF; dsimp only; rw [if_neg (by rw [c_38]; decide), if_neg (by rw [c_38]; decide), if_neg (by rw [c_38]; decide), if_neg (by rw [c_38]; decide), if_pos c_38]
    exact k_lret S hr hlk I (by rw [e]) (by rw [e]) dX3_doThen_112
theorem in_X3_doLevel_X3 : ∀ w ∈ u_ws RX3 TX3 4, w ∈ wsX3_doLevel := by decide +kernel
set_option maxHeartbeats 4000000 in
set_option maxRecDepth 100000 in
/-- doLevel, the way down given -/
theorem c_doLevel (l : Launch) (D : va_G) (cy : Nat → ClassId) (A : Nat → Prop) (ad : Nat → Nat) (C : rC) (rn : Int32) (X : va_W) (k : Nat) (hk : k < 6) (hG : rGD l D cy A ad C rn X k) (N : rN) (T : rT) (b v : Int32) (hN : N.2 + (3 + 2 * cgF k) < 99000) (hT : T.2.2 ≤ 7) : Met l yX3_doLevel wsX3_doLevel ({ frames := 16 + 10 * k, cells := 0, slots := 0, locals := 700 + 400 * k }) (va_Pc [.ref (ad 0), .int (nI k), .int b, .int v] (KP D cy A (rgW ad cy C N T rn X))) (va_Ql (fun (r : Int64) (_ : Unit) => r = (dlF C k (gdF C k) b v (N, T)).2) (fun _ => KB D cy A (rgW ad cy C ((dlF C k (gdF C k) b v (N, T)).1.1) ((dlF C k (gdF C k) b v (N, T)).1.2) rn X)) A) 0 0 A := by
  refine k_open (own := RX3) (maxL := 6) (ret := (some .long)) (by decide) rfl rfl (Nat.le_of_ble_eq_true rfl) (fun p e s m args below meth c S hr hlk I ls hl => ?_)
  obtain ⟨hx, hb, hml, hown, hts⟩ := id S
  have hl : lv_has ls 6 [(0, .ref (ad 0)), (1, .int (nI k)), (2, .int b), (3, .int v)] := hl
  refine lv_aload_n hx hb dX3_doLevel_0 rfl (lv_at hl 0 rfl) ?_
  refine k_get (T := TX3) (N := 4) (ci := 3) (k := 1) (q0 := 0) (v := .ref (ad 8)) S I in_X3_doLevel_X3 rfl rfl (by decide) (by decide +kernel) rfl dX3_doLevel_1 ?_
  refine lv_iload_n hx hb dX3_doLevel_4 rfl (lv_at hl 1 rfl) ?_
  refine k_Vv (q0 := 8) (As := [.int (nI k)]) (rest := []) (w1 := rgW ad cy C (nt N (nI k)) T rn X) S I (c_add l D cy A ad C N T rn X (by omega) (nI k)) (cwV 1 hts gX3_doLevel_X1_add rfl rfl rfl (by decide +kernel) ⟨by show 0 + 1 ≤ 16 + 10 * k; omega, by show 8 + (2 + 11) + 0 ≤ 700 + 400 * k; omega⟩) rfl rfl rfl rfl hl.1 rfl (Nat.le_of_ble_eq_true rfl) dX3_doLevel_5 ⟨Nat.zero_le _, Nat.zero_le _⟩ (fun H locs I => ?_)
  refine lv_aload_n hx hb dX3_doLevel_8 rfl (lv_at hl 0 rfl) ?_
  refine lv_iload_n hx hb dX3_doLevel_9 rfl (lv_at hl 1 rfl) ?_
  refine lv_iload_n hx hb dX3_doLevel_10 rfl (lv_at hl 2 rfl) ?_
  refine lv_iload_n hx hb dX3_doLevel_11 rfl (lv_at hl 3 rfl) ?_
  refine k_Vl (q0 := 0) (As := [.int (nI k), .int b, .int v]) (rest := []) (w1 := rgW ad cy C ((gdF C k b v (nt N (nI k), T)).1.1) ((gdF C k b v (nt N (nI k), T)).1.2) rn X) (G := (gdF C k b v (nt N (nI k), T)).2) S I (hG (nt N (nI k)) T b v (by rw [nt_2]; omega) hT) (cwV 3 hts gX3_doLevel_X3_goDown rfl rfl rfl (by decide +kernel) ⟨by show 10 + 10 * k + 1 ≤ 16 + 10 * k; omega, by show 8 + (4 + 11) + (400 + 400 * k) ≤ 700 + 400 * k; omega⟩) rfl rfl rfl rfl hl.1 rfl (Nat.le_of_ble_eq_true rfl) dX3_doLevel_12 ⟨Nat.zero_le _, Nat.zero_le _⟩ (fun H locs I => ?_)
  obtain ⟨g1, g2⟩ := gdF_h C k b v (nt N (nI k), T) hT
  rw [nt_2] at g2
  refine lv_lstore (lv' := [(4, .long ((gdF C k b v (nt N (nI k), T)).2)), (0, .ref (ad 0)), (1, .int (nI k)), (2, .int b), (3, .int v)]) hx hb dX3_doLevel_15 hl (by decide) rfl (fun ls hl => ?_)
  refine lv_aload_n hx hb dX3_doLevel_17 rfl (lv_at hl 1 rfl) ?_
  refine k_get (T := TX3) (N := 4) (ci := 3) (k := 0) (q0 := 0) (v := .ref (ad 1)) S I in_X3_doLevel_X3 rfl rfl (by decide) (by decide +kernel) rfl dX3_doLevel_18 ?_
  refine lv_iload_n hx hb dX3_doLevel_21 rfl (lv_at hl 2 rfl) ?_
  refine k_aald (q0 := 1) (t0 := 0) (j := k) (b := ad (2 + k)) S I rfl rfl hk (by decide) rfl (lvF_at hk) dX3_doLevel_22 ?_
  refine lv_aload_n hx hb dX3_doLevel_23 rfl (lv_at hl 1 rfl) ?_
  refine k_get (T := TX3) (N := 4) (ci := 3) (k := 2) (q0 := 0) (v := .ref (ad 10)) S I in_X3_doLevel_X3 rfl rfl (by decide) (by decide +kernel) rfl dX3_doLevel_24 ?_
  refine k_Vi (q0 := 10) (As := []) (rest := [.ref (ad (2 + k))]) (w1 := rgW ad cy C ((gdF C k b v (nt N (nI k), T)).1.1) ((gdF C k b v (nt N (nI k), T)).1.2) rn X) (G := kdT (gdF C k b v (nt N (nI k), T)).1.2) S I (c_kind l D cy A ad C (gdF C k b v (nt N (nI k), T)).1.1 (gdF C k b v (nt N (nI k), T)).1.2 rn X g1) (cwV 0 hts gX3_doLevel_X2_kind rfl rfl rfl (by decide +kernel) ⟨by show 0 + 1 ≤ 16 + 10 * k; omega, by show 8 + (1 + 11) + 0 ≤ 700 + 400 * k; omega⟩) rfl rfl rfl rfl hl.1 rfl (Nat.le_of_ble_eq_true rfl) dX3_doLevel_27 ⟨Nat.zero_le _, Nat.zero_le _⟩ (fun H locs I => ?_)
  refine k_Vi (q0 := (2 + k)) (As := [.int (kdT (gdF C k b v (nt N (nI k), T)).1.2)]) (rest := []) (w1 := rgW ad cy C ((gdF C k b v (nt N (nI k), T)).1.1) ((gdF C k b v (nt N (nI k), T)).1.2) rn X) (G := tkB (C.1 k) (kdT (gdF C k b v (nt N (nI k), T)).1.2)) S I (c_takesKind l D cy A ad C (gdF C k b v (nt N (nI k), T)).1.1 (gdF C k b v (nt N (nI k), T)).1.2 rn X k hk (kdT (gdF C k b v (nt N (nI k), T)).1.2)) (cwV 1 hts gX3_doLevel_X0_takesKind rfl rfl rfl (by decide +kernel) ⟨by show 0 + 1 ≤ 16 + 10 * k; omega, by show 8 + (2 + 11) + 0 ≤ 700 + 400 * k; omega⟩) (rgW_lv hk) rfl rfl rfl hl.1 rfl (Nat.le_of_ble_eq_true rfl) dX3_doLevel_30 ⟨Nat.zero_le _, Nat.zero_le _⟩ (fun H locs I => ?_)
  refine lv_if_eq (tgt := 43) hx hb dX3_doLevel_33 (by decide) (fun c_33 => ?_) (fun c_33 => ?_)
  · refine lv_aload_n hx hb dX3_doLevel_43 rfl (lv_at hl 1 rfl) ?_
    refine lv_iload_n hx hb dX3_doLevel_44 rfl (lv_at hl 2 rfl) ?_
    refine lv_lload hx hb dX3_doLevel_45 (lv_at hl 0 rfl) ?_
    refine k_Vl (q0 := 0) (As := [.int (nI k), .long ((gdF C k b v (nt N (nI k), T)).2)]) (rest := []) (w1 := rgW ad cy C ((laF C k (gdF C k b v (nt N (nI k), T)).2 ((gdF C k b v (nt N (nI k), T)).1.1, (gdF C k b v (nt N (nI k), T)).1.2)).1.1) ((laF C k (gdF C k b v (nt N (nI k), T)).2 ((gdF C k b v (nt N (nI k), T)).1.1, (gdF C k b v (nt N (nI k), T)).1.2)).1.2) rn X) (G := (laF C k (gdF C k b v (nt N (nI k), T)).2 ((gdF C k b v (nt N (nI k), T)).1.1, (gdF C k b v (nt N (nI k), T)).1.2)).2) S I (c_doLast l D cy A ad C (gdF C k b v (nt N (nI k), T)).1.1 (gdF C k b v (nt N (nI k), T)).1.2 rn X (by omega) (by omega) k hk (gdF C k b v (nt N (nI k), T)).2) (cwV 2 hts gX3_doLevel_X3_doLast rfl rfl rfl (by decide +kernel) ⟨by show 3 + 1 ≤ 16 + 10 * k; omega, by show 8 + (5 + 11) + 100 ≤ 700 + 400 * k; omega⟩) rfl rfl rfl rfl hl.1 rfl (Nat.le_of_ble_eq_true rfl) dX3_doLevel_47 ⟨Nat.zero_le _, Nat.zero_le _⟩ (fun H locs I => ?_)
    have e : dlF C k (gdF C k) b v (N, T) = (laF C k (gdF C k b v (nt N (nI k), T)).2 ((gdF C k b v (nt N (nI k), T)).1.1, (gdF C k b v (nt N (nI k), T)).1.2)) := by unfold dlF; dsimp only; rw [if_pos c_33]
    exact k_lret S hr hlk I (by rw [e]) (by rw [e]) dX3_doLevel_50
  · refine lv_aload_n hx hb dX3_doLevel_36 rfl (lv_at hl 1 rfl) ?_
    refine lv_iload_n hx hb dX3_doLevel_37 rfl (lv_at hl 2 rfl) ?_
    refine k_Vl (q0 := 0) (As := [.int (nI k)]) (rest := []) (w1 := rgW ad cy C ((thF C k (gdF C k) ((gdF C k b v (nt N (nI k), T)).1.1, (gdF C k b v (nt N (nI k), T)).1.2)).1.1) ((thF C k (gdF C k) ((gdF C k b v (nt N (nI k), T)).1.1, (gdF C k b v (nt N (nI k), T)).1.2)).1.2) rn X) (G := (thF C k (gdF C k) ((gdF C k b v (nt N (nI k), T)).1.1, (gdF C k b v (nt N (nI k), T)).1.2)).2) S I (c_doThen l D cy A ad C (gdF C k b v (nt N (nI k), T)).1.1 (gdF C k b v (nt N (nI k), T)).1.2 rn X k hk hG (by omega) g1) (cwV 1 hts gX3_doLevel_X3_doThen rfl rfl rfl (by decide +kernel) ⟨by show 13 + 10 * k + 1 ≤ 16 + 10 * k; omega, by show 8 + (3 + 11) + (550 + 400 * k) ≤ 700 + 400 * k; omega⟩) rfl rfl rfl rfl hl.1 rfl (Nat.le_of_ble_eq_true rfl) dX3_doLevel_38 ⟨Nat.zero_le _, Nat.zero_le _⟩ (fun H locs I => ?_)
    obtain ⟨g3, g4⟩ := thF_h (C := C) (k := k) (gdF_h C k) ((gdF C k b v (nt N (nI k), T)).1.1, (gdF C k b v (nt N (nI k), T)).1.2) g1
    dsimp only at g4
    refine lv_lstore (lv' := [(4, .long ((thF C k (gdF C k) ((gdF C k b v (nt N (nI k), T)).1.1, (gdF C k b v (nt N (nI k), T)).1.2)).2)), (0, .ref (ad 0)), (1, .int (nI k)), (2, .int b), (3, .int v)]) hx hb dX3_doLevel_41 hl (by decide) rfl (fun ls hl => ?_)
    refine lv_aload_n hx hb dX3_doLevel_43 rfl (lv_at hl 1 rfl) ?_
    refine lv_iload_n hx hb dX3_doLevel_44 rfl (lv_at hl 2 rfl) ?_
    refine lv_lload hx hb dX3_doLevel_45 (lv_at hl 0 rfl) ?_
    refine k_Vl (q0 := 0) (As := [.int (nI k), .long ((thF C k (gdF C k) ((gdF C k b v (nt N (nI k), T)).1.1, (gdF C k b v (nt N (nI k), T)).1.2)).2)]) (rest := []) (w1 := rgW ad cy C ((laF C k (thF C k (gdF C k) ((gdF C k b v (nt N (nI k), T)).1.1, (gdF C k b v (nt N (nI k), T)).1.2)).2 ((thF C k (gdF C k) ((gdF C k b v (nt N (nI k), T)).1.1, (gdF C k b v (nt N (nI k), T)).1.2)).1.1, (thF C k (gdF C k) ((gdF C k b v (nt N (nI k), T)).1.1, (gdF C k b v (nt N (nI k), T)).1.2)).1.2)).1.1) ((laF C k (thF C k (gdF C k) ((gdF C k b v (nt N (nI k), T)).1.1, (gdF C k b v (nt N (nI k), T)).1.2)).2 ((thF C k (gdF C k) ((gdF C k b v (nt N (nI k), T)).1.1, (gdF C k b v (nt N (nI k), T)).1.2)).1.1, (thF C k (gdF C k) ((gdF C k b v (nt N (nI k), T)).1.1, (gdF C k b v (nt N (nI k), T)).1.2)).1.2)).1.2) rn X) (G := (laF C k (thF C k (gdF C k) ((gdF C k b v (nt N (nI k), T)).1.1, (gdF C k b v (nt N (nI k), T)).1.2)).2 ((thF C k (gdF C k) ((gdF C k b v (nt N (nI k), T)).1.1, (gdF C k b v (nt N (nI k), T)).1.2)).1.1, (thF C k (gdF C k) ((gdF C k b v (nt N (nI k), T)).1.1, (gdF C k b v (nt N (nI k), T)).1.2)).1.2)).2) S I (c_doLast l D cy A ad C (thF C k (gdF C k) ((gdF C k b v (nt N (nI k), T)).1.1, (gdF C k b v (nt N (nI k), T)).1.2)).1.1 (thF C k (gdF C k) ((gdF C k b v (nt N (nI k), T)).1.1, (gdF C k b v (nt N (nI k), T)).1.2)).1.2 rn X (by omega) (by omega) k hk (thF C k (gdF C k) ((gdF C k b v (nt N (nI k), T)).1.1, (gdF C k b v (nt N (nI k), T)).1.2)).2) (cwV 2 hts gX3_doLevel_X3_doLast rfl rfl rfl (by decide +kernel) ⟨by show 3 + 1 ≤ 16 + 10 * k; omega, by show 8 + (5 + 11) + 100 ≤ 700 + 400 * k; omega⟩) rfl rfl rfl rfl hl.1 rfl (Nat.le_of_ble_eq_true rfl) dX3_doLevel_47 ⟨Nat.zero_le _, Nat.zero_le _⟩ (fun H locs I => ?_)
    have e : dlF C k (gdF C k) b v (N, T) = (laF C k (thF C k (gdF C k) ((gdF C k b v (nt N (nI k), T)).1.1, (gdF C k b v (nt N (nI k), T)).1.2)).2 ((thF C k (gdF C k) ((gdF C k b v (nt N (nI k), T)).1.1, (gdF C k b v (nt N (nI k), T)).1.2)).1.1, (thF C k (gdF C k) ((gdF C k b v (nt N (nI k), T)).1.1, (gdF C k b v (nt N (nI k), T)).1.2)).1.2)) := by unfold dlF; dsimp only; rw [if_neg c_33]
    exact k_lret S hr hlk I (by rw [e]) (by rw [e]) dX3_doLevel_50
theorem in_X3_goDown_X0 : ∀ w ∈ u_ws RX0 TX0 4, w ∈ wsX3_goDown := by decide +kernel
theorem in_X3_goDown_X3 : ∀ w ∈ u_ws RX3 TX3 4, w ∈ wsX3_goDown := by decide +kernel
set_option maxHeartbeats 4000000 in
set_option maxRecDepth 100000 in
/-- goDown from level 0 -/
theorem c_goDown0 (l : Launch) (D : va_G) (cy : Nat → ClassId) (A : Nat → Prop) (ad : Nat → Nat) (C : rC) (rn : Int32) (X : va_W) (N : rN) (T : rT) (b v : Int32) (hN : N.2 < 99000) : Met l yX3_goDown wsX3_goDown ({ frames := 10 + 10 * 0, cells := 0, slots := 0, locals := 400 + 400 * 0 }) (va_Pc [.ref (ad 0), .int (nI 0), .int b, .int v] (KP D cy A (rgW ad cy C N T rn X))) (va_Ql (fun (r : Int64) (_ : Unit) => r = (gdF C 0 b v (N, T)).2) (fun _ => KB D cy A (rgW ad cy C ((gdF C 0 b v (N, T)).1.1) ((gdF C 0 b v (N, T)).1.2) rn X)) A) 0 0 A := by
  refine k_open (own := RX3) (maxL := 4) (ret := (some .long)) (by decide) rfl rfl (Nat.le_of_ble_eq_true rfl) (fun p e s m args below meth c S hr hlk I ls hl => ?_)
  obtain ⟨hx, hb, hml, hown, hts⟩ := id S
  have hl : lv_has ls 4 [(0, .ref (ad 0)), (1, .int (nI 0)), (2, .int b), (3, .int v)] := hl
  refine lv_iload_n hx hb dX3_goDown_0 rfl (lv_at hl 1 rfl) ?_
  refine lv_if_gt (tgt := 11) hx hb dX3_goDown_1 (by decide) (fun c_1 => ?_) (fun c_1 => ?_)
  · exact absurd c_1 (by decide)
  · refine lv_aload_n hx hb dX3_goDown_4 rfl (lv_at hl 0 rfl) ?_
    refine lv_iload_n hx hb dX3_goDown_5 rfl (lv_at hl 2 rfl) ?_
    refine lv_iload_n hx hb dX3_goDown_6 rfl (lv_at hl 3 rfl) ?_
    refine k_Vl (q0 := 0) (As := [.int b, .int v]) (rest := []) (w1 := rgW ad cy C ((rbF b v (N, T)).1.1) ((rbF b v (N, T)).1.2) rn X) (G := (rbF b v (N, T)).2) S I (c_reachBottom l D cy A ad C N T rn X (by omega) b v) (cwV 2 hts gX3_goDown_X3_reachBottom rfl rfl rfl (by decide +kernel) ⟨Nat.le_of_ble_eq_true rfl, Nat.le_of_ble_eq_true rfl⟩) rfl rfl rfl rfl hl.1 rfl (Nat.le_of_ble_eq_true rfl) dX3_goDown_7 ⟨Nat.zero_le _, Nat.zero_le _⟩ (fun H locs I => ?_)
    exact k_lret S hr hlk I rfl rfl dX3_goDown_10
set_option maxHeartbeats 4000000 in
set_option maxRecDepth 100000 in
/-- goDown from a level above -/
theorem c_goDownS (l : Launch) (D : va_G) (cy : Nat → ClassId) (A : Nat → Prop) (ad : Nat → Nat) (C : rC) (rn : Int32) (X : va_W) (k : Nat) (hk : k + 1 < 6) (hD : rDL l D cy A ad C rn X k) (N : rN) (T : rT) (b v : Int32) (hN : N.2 + cgF (k + 1) < 99000) (hT : T.2.2 ≤ 7) : Met l yX3_goDown wsX3_goDown ({ frames := 10 + 10 * (k + 1), cells := 0, slots := 0, locals := 400 + 400 * (k + 1) }) (va_Pc [.ref (ad 0), .int (nI (k + 1)), .int b, .int v] (KP D cy A (rgW ad cy C N T rn X))) (va_Ql (fun (r : Int64) (_ : Unit) => r = (gdF C (k + 1) b v (N, T)).2) (fun _ => KB D cy A (rgW ad cy C ((gdF C (k + 1) b v (N, T)).1.1) ((gdF C (k + 1) b v (N, T)).1.2) rn X)) A) 0 0 A := by
  refine k_open (own := RX3) (maxL := 4) (ret := (some .long)) (by decide) rfl rfl (Nat.le_of_ble_eq_true rfl) (fun p e s m args below meth c S hr hlk I ls hl => ?_)
  obtain ⟨hx, hb, hml, hown, hts⟩ := id S
  have hl : lv_has ls 4 [(0, .ref (ad 0)), (1, .int (nI (k + 1))), (2, .int b), (3, .int v)] := hl
  refine lv_iload_n hx hb dX3_goDown_0 rfl (lv_at hl 1 rfl) ?_
  refine lv_if_gt (tgt := 11) hx hb dX3_goDown_1 (by decide) (fun c_1 => ?_) (fun c_1 => ?_)
  · refine lv_aload_n hx hb dX3_goDown_11 rfl (lv_at hl 0 rfl) ?_
    refine lv_iload_n hx hb dX3_goDown_12 rfl (lv_at hl 1 rfl) ?_
    refine lv_iconst (v := 1) hx hb dX3_goDown_13 (by decide) ?_
    refine lv_isub hx hb dX3_goDown_14 ?_
    refine W.eq (g2 := F0 m 15 ls (.int (nI k) :: [.ref (ad 0)])) (by rw [nI_pred]) ?_
    refine lv_iload_n hx hb dX3_goDown_15 rfl (lv_at hl 2 rfl) ?_
    refine lv_iload_n hx hb dX3_goDown_16 rfl (lv_at hl 3 rfl) ?_
    refine k_Vl (q0 := 0) (As := [.int (nI k), .int b, .int v]) (rest := []) (w1 := rgW ad cy C ((dlF C k (gdF C k) b v (N, T)).1.1) ((dlF C k (gdF C k) b v (N, T)).1.2) rn X) (G := (dlF C k (gdF C k) b v (N, T)).2) S I (hD N T b v hN hT) (cwV 3 hts gX3_goDown_X3_doLevel rfl rfl rfl (by decide +kernel) ⟨by show 16 + 10 * k + 1 ≤ 10 + 10 * (k + 1); omega, by show 8 + (6 + 11) + (700 + 400 * k) ≤ 400 + 400 * (k + 1); omega⟩) rfl rfl rfl rfl hl.1 rfl (Nat.le_of_ble_eq_true rfl) dX3_goDown_17 ⟨Nat.zero_le _, Nat.zero_le _⟩ (fun H locs I => ?_)
    refine lv_aload_n hx hb dX3_goDown_20 rfl (lv_at hl 0 rfl) ?_
    refine k_get (T := TX3) (N := 4) (ci := 3) (k := 0) (q0 := 0) (v := .ref (ad 1)) S I in_X3_goDown_X3 rfl rfl (by decide) (by decide +kernel) rfl dX3_goDown_21 ?_
    refine lv_iload_n hx hb dX3_goDown_24 rfl (lv_at hl 1 rfl) ?_
    refine k_aald (q0 := 1) (t0 := 0) (j := (k + 1)) (b := ad (2 + (k + 1))) S I rfl rfl hk (by decide) rfl (lvF_at hk) dX3_goDown_25 ?_
    refine k_getN (T := TX0) (N := 4) (ci := 0) (k := 3) (q0 := (2 + (k + 1))) (v := .int (C.2.2.2 (k + 1))) S I in_X3_goDown_X0 (rgW_lv hk) rfl (by decide) I.2.1.1.2.2.2.2.2 rfl dX3_goDown_26 ?_
    refine lv_i2l (v := (C.2.2.2 (k + 1)).toInt64) hx hb dX3_goDown_29 rfl ?_
    refine lv_ladd hx hb dX3_goDown_30 ?_
    exact k_lret S hr hlk I rfl rfl dX3_goDown_31
  · exact absurd (by have h := nI_lt (a := 0) (b := k + 1) (by omega) (by omega); rwa [nI_0] at h) c_1
/-- goDown and doLevel, at every level -/
theorem c_down (l : Launch) (D : va_G) (cy : Nat → ClassId) (A : Nat → Prop) (ad : Nat → Nat) (C : rC) (rn : Int32) (X : va_W) : ∀ k : Nat, k < 6 → rGD l D cy A ad C rn X k ∧ rDL l D cy A ad C rn X k := by
  intro k
  induction k with
  | zero =>
    intro hk
    have hG : rGD l D cy A ad C rn X 0 := fun N T b v hN hT => c_goDown0 l D cy A ad C rn X N T b v (by unfold cgF at hN; omega)
    exact ⟨hG, fun N T b v hN hT => c_doLevel l D cy A ad C rn X 0 hk hG N T b v hN hT⟩
  | succ k ih =>
    intro hk
    have hG : rGD l D cy A ad C rn X (k + 1) := fun N T b v hN hT => c_goDownS l D cy A ad C rn X k hk (ih (by omega)).2 N T b v hN hT
    exact ⟨hG, fun N T b v hN hT => c_doLevel l D cy A ad C rn X (k + 1) hk hG N T b v hN hT⟩
end
section
/-! 'throw new NullPointerException("text")' BY THE PROGRAM ITSELF, no traces kept: the constructor passes the text up to Throwable's, whose fillInStackTrace() is NullPointerException's own -/
section VN
/-- NullPointerException's fillInStackTrace() on a cell that nobody holds: in and out -/
theorem vn_fill (p : Program) {e : Env} {below : List Frame} {s₀ V : State} {g : JFrame} {c : Code} {self : Addr} (h : At V g.method c below) (hexec : p.tables.exec = Jvm.exec) (htr : e.platform.stackTraces = false)
    (T : ThrowableC) (L : T.Links e.platform s₀) (N : NpeC) (LN : N.Links T e.platform s₀) (hW : s₀.WarmedH V.vm) {u0 : RefV} {cell cellS : Cell} {kcell : Class} {ig : Instr} {len : Nat}
    (hcell : V.heap[self]? = some cell) (hobj : ∀ k, cell.vm ≠ .statics k) (hknown : cell.vm ≠ .unknown) (hfree : cell.monitor.owner = none)
    (hkcell : s₀.vm.classes[cell.cls]? = some kcell) (hsel0 : selectMethod e.platform s₀.vm cell.cls T.fill0 = .method T.fill0)
    (hcellS : V.heap[T.aS]? = some cellS) (hneS : T.aS ≠ self) (hknownS : cellS.vm ≠ .unknown) (hvU : cellS.slots[T.fUnassigned.slot]? = some u0.v)
    (hv0 : cell.slots[N.fState.slot]? = some (.int 0)) (hneSt : T.fStack.slot ≠ N.fState.slot) (hvS : cell.slots[T.fStack.slot]? = some u0.v)
    (htS : Takes s₀ cell T.fStack u0.v) (ht1 : Takes s₀ cell N.fState (.int 1))
    (hskip : SkipFacts T e.platform s₀ (fun u => u) u0 ((npeCell N.toNpeT cell V.cur).withEntry V.cur))
    {lim : Nat × Nat} (hlim : e.platform.stackLimits V.me = lim) (hframes : V.frames.length + 2 < lim.1) (hwords : (stackUse (.java g :: V.frames.tail)).2 + 43 ≤ lim.2) (hdg : decode c.code g.pc = .ok (ig, len)) :
    ∃ vm', s₀.WarmedH vm' ∧ ∀ target, Steps p.tables e below (((V.setVm vm').setCell self ((((npeCell N.toNpeT cell V.cur).withEntry V.cur).setSlot T.fStack.slot u0.v).left).left).setTop { g with pc := g.pc + len, stack := .ref self :: g.stack }) target →
      Steps p.tables e below (doInvoke e (V.setTop g) [] N.fill #[.ref self]).1 target := by
  obtain ⟨g₀, hg0⟩ := Option.isSome_iff_exists.mp h.top
  obtain ⟨tl, htl⟩ := State.topJava?_eq_some.mp hg0
  have hlen : V.frames.length = (Frame.java g :: V.frames.tail).length := by rw [htl]; rfl
  have hfg : (V.setTop g).frames = .java g :: V.frames.tail := by rw [State.frames_setTop _ htl, htl]; rfl
  have hr1 : e.platform.stackFull (((V.setTop g).threads[(V.setTop g).cur]?).getD { frames := [] }) (V.setTop g).frames (1 + 2) = false :=
    roomAbove (pushed := []) (base := .java g :: V.frames.tail) (free := 43) (lim := lim) hfg (by rw [State.stackLimits_setTop _ h.top]; exact hlim) (by rw [← hlen]; simp only [List.length_nil]; omega) hwords (by simp only [stackUse_nil]; omega)
  obtain ⟨t, ht⟩ : ∃ t, t = V.cur := ⟨_, rfl⟩
  rw [← ht] at hskip ⊢
  obtain ⟨cM, hcM⟩ : ∃ z, z = (((npeCell N.toNpeT cell t).withEntry t).setSlot T.fStack.slot u0.v).left := ⟨_, rfl⟩
  rw [← hcM]
  have hheld : ((npeCell N.toNpeT cell t).withEntry t).left = npeCell N.toNpeT cell t := Cell.left_withEntry_held _ rfl (by show 0 < cell.monitor.count + 1; omega)
  have hMmon : cM.monitor = (npeCell N.toNpeT cell t).monitor := by
    have q := Cell.left_monitor_congr (x := ((npeCell N.toNpeT cell t).withEntry t).setSlot T.fStack.slot u0.v) (y := (npeCell N.toNpeT cell t).withEntry t) rfl
    rw [hcM, q, hheld]
  refine Exists.elim (Steps.npeFillColdBy p (V := V) (g := g) (c := c) (self := self) h hexec T L N LN hW (Fi := fun u => u.setCell self cM) (heapOnly_id.thenSetCell self cM) (fun _ => rfl) (fun u x y => by rw [setCell_twice, setCell_twice, setCell_twice])
    (cell := cell) (cFi := cM) (kcell := kcell) [] hcell hobj hknown hfree hkcell hv0 ht1 (fun u hu => heapAt_setCell_self _ (Array.getElem?_eq_some_iff.mp hu).1) (by rw [← ht]; exact hMmon) hdg (fun vm1 hW1 hB => ?_) hr1) (fun vm' q => ⟨vm', q.1, fun target hr => q.2 target (by rw [setCell_twice]; exact hr)⟩)
  have hlt : self < V.heap.size := (Array.getElem?_eq_some_iff.mp hcell).1
  have htopE : ∀ vm, ((V.setVm vm).setCell self (cell.withEntry (V.setVm vm).cur)).topJava?.isSome := fun vm => h.top
  have hfN : ∀ vm, (npeInside (V.setVm vm) g N.toNpeT self cell).frames = .java (entryFrameSync N.fill #[.ref self] 1 self) :: .java g :: V.frames.tail := fun vm => frames_entered (g := g) (htopE vm) _
  have htopN : ∀ vm, (npeInside (V.setVm vm) g N.toNpeT self cell).topJava?.isSome := fun vm => by rw [State.topJava?_of_frames (hfN vm)]; rfl
  have hlimN : ∀ vm, e.platform.stackLimits (npeInside (V.setVm vm) g N.toNpeT self cell).me = lim := fun vm => by
    show e.platform.stackLimits (fillInside (V.setVm vm) g N.fill self cell).me = lim
    rw [State.stackLimits_pushFrame, State.stackLimits_setTop _ (htopE vm)]; exact hlim
  have hw1 : (stackUse [Frame.java (fillJ N.fill self 37 [])]).2 = 14 := by
    rw [stackUse_java, stackUse_nil]
    simp [operandWords]
  have hr2 : ∀ vm, e.platform.stackFull ((((npeInside (V.setVm vm) g N.toNpeT self cell).setTop (fillJ N.fill self 37 [])).threads[((npeInside (V.setVm vm) g N.toNpeT self cell).setTop (fillJ N.fill self 37 [])).cur]?).getD { frames := [] }) ((npeInside (V.setVm vm) g N.toNpeT self cell).setTop (fillJ N.fill self 37 [])).frames (1 + 2) = false := fun vm =>
    roomAbove (pushed := [.java (fillJ N.fill self 37 [])]) (base := .java g :: V.frames.tail) (free := 43) (lim := lim) (State.frames_setTop _ (hfN vm)) (by rw [State.stackLimits_setTop _ (htopN vm)]; exact hlimN vm)
      (by rw [← hlen]; simp only [List.length_cons, List.length_nil]; omega) hwords (by rw [hw1]; omega)
  have hc1 : ∀ vm, (npeInside (V.setVm vm) g N.toNpeT self cell).heap[self]? = some (npeCell N.toNpeT cell t) := fun vm => by
    rw [ht]
    exact heapAt_setCell_self _ (by show self < (V.heap.setIfInBounds self _).size; simpa using hlt)
  have hc2 : (npeInside (V.setVm vm1) g N.toNpeT self cell).heap[T.aS]? = some cellS := by
    show ((V.heap.setIfInBounds self _).setIfInBounds self _)[T.aS]? = _
    simp [Ne.symm hneS, hcellS]
  have htopF : ∀ vm, ((npeInside (V.setVm vm) g N.toNpeT self cell).setCell self ((npeCell N.toNpeT cell t).withEntry (npeInside (V.setVm vm) g N.toNpeT self cell).cur)).topJava?.isSome := fun vm => by rw [State.topJava?_setCell]; exact htopN vm
  have hfF : ∀ vm, (fillInside (npeInside (V.setVm vm) g N.toNpeT self cell) (fillJ N.fill self 37 []) T.fill self (npeCell N.toNpeT cell t)).frames = .java (entryFrameSync T.fill #[.ref self] 1 self) :: .java (fillJ N.fill self 37 []) :: .java g :: V.frames.tail := fun vm => by
    rw [show (fillInside (npeInside (V.setVm vm) g N.toNpeT self cell) (fillJ N.fill self 37 []) T.fill self (npeCell N.toNpeT cell t)).frames = _ from frames_entered (g := fillJ N.fill self 37 []) (htopF vm) _]
    show _ :: _ :: ((npeInside (V.setVm vm) g N.toNpeT self cell).frames).tail = _
    rw [hfN vm]; rfl
  have htopF2 : ∀ vm, (fillInside (npeInside (V.setVm vm) g N.toNpeT self cell) (fillJ N.fill self 37 []) T.fill self (npeCell N.toNpeT cell t)).topJava?.isSome := fun vm => by rw [State.topJava?_of_frames (hfF vm)]; rfl
  have hlimF : ∀ vm, e.platform.stackLimits (fillInside (npeInside (V.setVm vm) g N.toNpeT self cell) (fillJ N.fill self 37 []) T.fill self (npeCell N.toNpeT cell t)).me = lim := fun vm => by
    rw [State.stackLimits_pushFrame, State.stackLimits_setTop _ (htopF vm)]; exact hlimN vm
  have hw2 : (stackUse [Frame.java (fillJ T.fill self 16 []), Frame.java (fillJ N.fill self 37 [])]).2 = 28 := by
    rw [stackUse_java, hw1]
    simp [operandWords]
  have hr3 : ∀ vm, e.platform.stackFull ((((fillInside (npeInside (V.setVm vm) g N.toNpeT self cell) (fillJ N.fill self 37 []) T.fill self (npeCell N.toNpeT cell t)).setTop (fillJ T.fill self 16 [])).threads[((fillInside (npeInside (V.setVm vm) g N.toNpeT self cell) (fillJ N.fill self 37 []) T.fill self (npeCell N.toNpeT cell t)).setTop (fillJ T.fill self 16 [])).cur]?).getD { frames := [] }) ((fillInside (npeInside (V.setVm vm) g N.toNpeT self cell) (fillJ N.fill self 37 []) T.fill self (npeCell N.toNpeT cell t)).setTop (fillJ T.fill self 16 [])).frames (nativeFrameWords "java/lang/Throwable" "fillInStackTrace" 2) = false := fun vm =>
    roomAbove (pushed := [.java (fillJ T.fill self 16 []), .java (fillJ N.fill self 37 [])]) (base := .java g :: V.frames.tail) (free := 43) (lim := lim) (State.frames_setTop _ (hfF vm)) (by rw [State.stackLimits_setTop _ (htopF2 vm)]; exact hlimF vm)
      (by rw [← hlen]; simp only [List.length_cons, List.length_nil]; omega) hwords (by rw [hw2]; decide)
  have hXvm : ∀ vm, (npeInside (V.setVm vm1) g N.toNpeT self cell).setVm vm = npeInside (V.setVm vm) g N.toNpeT self cell := fun vm => by rw [npeInside_setVm]; rfl
  have tk2 : ∀ {f : Field} {v : Value}, Takes s₀ cell f v → Takes s₀ (npeCell N.toNpeT cell t) f v := fun h' => ⟨by simpa [npeCell, Cell.setSlot, Cell.withEntry] using h'.1, h'.2⟩
  have hvSN : (npeCell N.toNpeT cell t).slots[T.fStack.slot]? = some u0.v := by
    simp [npeCell, Cell.setSlot, Cell.withEntry, Ne.symm hneSt, hvS]
  have hXcur : (npeInside (V.setVm vm1) g N.toNpeT self cell).cur = t := ht.symm
  obtain ⟨vm2, hW2, st⟩ := Steps.fillColdAnyV p (V := npeInside (V.setVm vm1) g N.toNpeT self cell) (g := fillJ N.fill self 37 []) (c := N.codeFill) (self := self) hB hexec T L (show s₀.WarmedH (npeInside (V.setVm vm1) g N.toNpeT self cell).vm from hW1) (Nn := fun u => u) heapOnly_id (fun _ _ => rfl) (fun _ => rfl) (fun u x y => setCell_twice _ _ _ _)
    (cell := npeCell N.toNpeT cell t) (cellS := cellS) (cN := (npeCell N.toNpeT cell t).withEntry t) (u0 := u0) (ig := .invokespecial 24) (len := 3) [] (hc1 vm1) hobj hknown (Or.inr (by rw [hXcur]; rfl)) hvSN hsel0 hc2 hneS hknownS hvU (fun u hu => by rw [hXcur] at hu; exact hu) (fun _ hu => hu) rfl rfl (by rw [hXcur]) (by simp [Cell.withEntry]) (tk2 htS)
    (by rw [LN.fillBytes]; exact LibCode.NullPointerException.Fill.at_37)
    (fun _ vm3 hW3 hA3 t' hs => by
      rw [hXvm] at hA3 hs ⊢
      exact L.nativeOff p htr hA3 (show s₀.WarmedH (fillInside (npeInside (V.setVm vm3) g N.toNpeT self cell) (fillJ N.fill self 37 []) T.fill self (npeCell N.toNpeT cell t)).vm from hW3) (hr3 vm3) hs)
    (hr2 vm1) (by rw [hXcur]; exact hskip)
  refine ⟨vm2, hW2, fun t' hs => st t' ?_⟩
  rw [hXvm, ← hcM]
  exact hs
/-- Throwable's constructor with a text, on a NullPointerException, up a chain of constructors that pass the text on -/
theorem vn_init (p : Program) {e : Env} {below : List Frame} {s₀ V : State} {g : JFrame} {c : Code} {self : Addr} (h : At V g.method c below) (hexec : p.tables.exec = Jvm.exec) (htr : e.platform.stackTraces = false)
    (T : ThrowableC) (L : T.Links e.platform s₀) (Z : Init0T) (LZ : Z.LaidS T.toThrowableT) (M : MsgC) (LM : M.Links T e.platform s₀) (N : NpeC) (LN : N.Links T e.platform s₀) (hW : s₀.WarmedH V.vm) {u0 sen : RefV} {msg : Value} (hmsg : msg.isRef = true) {cell cellS : Cell} {kcell : Class}
    (hcell : V.heap[self]? = some cell) (hobj : ∀ k, cell.vm ≠ .statics k) (hknown : cell.vm ≠ .unknown) (hfree : cell.monitor.owner = none) (hcount : cell.monitor.count = 0)
    (hkcell : s₀.vm.classes[cell.cls]? = some kcell) (hsel0 : selectMethod e.platform s₀.vm cell.cls T.fill0 = .method T.fill0)
    (hcellS : V.heap[T.aS]? = some cellS) (hneS : T.aS ≠ self) (hknownS : cellS.vm ≠ .unknown) (hvU : cellS.slots[T.fUnassigned.slot]? = some u0.v) (hvSen : cellS.slots[T.fSentinel.slot]? = some sen.v)
    (hv0 : cell.slots[N.fState.slot]? = some (.int 0)) (hneC : T.fCause.slot ≠ N.fState.slot) (hneSt : T.fStack.slot ≠ N.fState.slot) (hneP : T.fSupp.slot ≠ N.fState.slot)
    (htC : Takes s₀ cell T.fCause (.ref self)) (htS : Takes s₀ cell T.fStack u0.v) (htP : Takes s₀ cell T.fSupp sen.v) (htM : Takes s₀ cell T.fMsg msg) (ht1 : Takes s₀ cell N.fState (.int 1)) (hobjLocals : T.codeObj.maxLocals = 1)
    (hskip : SkipFacts T e.platform s₀ (fun u => u) u0 ((npeCell N.toNpeT (preparedCellV T.toThrowableT cell self u0 sen) V.cur).withEntry V.cur))
    (hselF : selectMethod e.platform s₀.vm cell.cls T.fill = .method N.fill)
    (Ps : List PassC) (hL : ∀ P, P ∈ Ps → P.LinksS e.platform s₀) (hlink : PassesOn (Z.m T.toThrowableT) (Ps.map (·.toPassT))) {ig : Instr} {len : Nat} (acts : List Action)
    {lim : Nat × Nat} (hlim : e.platform.stackLimits V.me = lim) (hframes : V.frames.length + Ps.length + 3 < lim.1) (hwords : (stackUse (.java g :: V.frames.tail)).2 + 13 * Ps.length + 56 ≤ lim.2)
    (hdg : decode c.code g.pc = .ok (ig, len)) :
    ∃ vm', s₀.WarmedH vm' ∧ ∀ target, Steps p.tables e below (((V.setVm vm').setCell self ((npeBareV T.toThrowableT N.toNpeT cell self u0 sen).setSlot T.fMsg.slot msg)).setTop { g with pc := g.pc + len }) target →
      Steps p.tables e below (doInvoke e (V.setTop g) acts (firstOf (Z.m T.toThrowableT) (Ps.map (·.toPassT))) #[.ref self, msg]).1 target := by
  obtain ⟨f1, -, -, f4, f5, f6⟩ := chainEnd_facts e.platform self msg (Ps.map (·.toPassT)) V g h.top
  have fc := chainEnd_cur self msg (Ps.map (·.toPassT)) V g
  rw [List.length_map] at f5 f6
  refine Steps.initChainSCold hexec (H := fun u => u.setCell self ((npeBareV T.toThrowableT N.toNpeT cell self u0 sen).setSlot T.fMsg.slot msg)) (heapOnly_id.thenSetCell self _) (Z.m T.toThrowableT) hmsg lim Ps V g c ig len acts h hW hL hlink hdg hlim (by omega) (by omega) (fun vm1 hW1 c' ig' len' hA' hdg' => ?_)
  simp only [chainEnd_setVm] at hA' hdg' ⊢
  generalize chainEnd self msg V g (Ps.map (·.toPassT)) = E at f1 f4 f5 f6 fc hA' hdg' ⊢
  have hcE : E.1.heap[self]? = some cell := by rw [f1]; exact hcell
  have hcSE : E.1.heap[T.aS]? = some cellS := by rw [f1]; exact hcellS
  have hlt : self < E.1.heap.size := (Array.getElem?_eq_some_iff.mp hcE).1
  have htopE : E.1.topJava?.isSome := hA'.top
  obtain ⟨g₀, hg0⟩ := Option.isSome_iff_exists.mp htopE
  obtain ⟨tl, htl⟩ := State.topJava?_eq_some.mp hg0
  have hlen : E.1.frames.length = (Frame.java E.2 :: E.1.frames.tail).length := by rw [htl]; rfl
  have hlimE : e.platform.stackLimits E.1.me = lim := by rw [f4]; exact hlim
  have hfE : ∀ vm, ((E.1.setVm vm).setTop E.2).frames = .java E.2 :: E.1.frames.tail := fun vm => by
    rw [State.frames_setTop _ (show (E.1.setVm vm).frames = .java g₀ :: tl from htl), htl]; rfl
  have hroom : e.platform.stackFull (((((E.1.setVm vm1)).setTop E.2).threads[((E.1.setVm vm1).setTop E.2).cur]?).getD { frames := [] }) ((E.1.setVm vm1).setTop E.2).frames 2 = false :=
    roomAbove (pushed := []) (base := .java E.2 :: E.1.frames.tail) (free := 56) (lim := lim) (hfE vm1) (by rw [State.stackLimits_setTop _ (show (E.1.setVm vm1).topJava?.isSome from htopE)]; exact hlimE) (by rw [← hlen]; simp only [List.length_nil]; omega) (by rw [f6]; omega) (by simp only [stackUse_nil]; omega)
  have hfI : ∀ vm, (initSInside (E.1.setVm vm) E.2 T.toThrowableT Z self msg).frames = .java (initSJ T.toThrowableT Z self msg 0 []) :: .java E.2 :: E.1.frames.tail := fun vm => frames_entered (show (E.1.setVm vm).topJava?.isSome from htopE) _
  have htopI : ∀ vm, (initSInside (E.1.setVm vm) E.2 T.toThrowableT Z self msg).topJava?.isSome := fun vm => by rw [State.topJava?_of_frames (hfI vm)]; rfl
  have hlimI : ∀ vm, e.platform.stackLimits (initSInside (E.1.setVm vm) E.2 T.toThrowableT Z self msg).me = lim := fun vm => by
    rw [State.stackLimits_pushFrame, State.stackLimits_setTop _ (show (E.1.setVm vm).topJava?.isSome from htopE)]; exact hlimE
  have hw13 : ∀ pc, (stackUse [Frame.java (initSJ T.toThrowableT Z self msg pc [])]).2 = 13 := fun pc => by
    rw [stackUse_java, stackUse_nil]
    simp [operandWords]
  have hroomO : e.platform.stackFull ((((initSInside (E.1.setVm vm1) E.2 T.toThrowableT Z self msg).setTop (initSJ T.toThrowableT Z self msg 1 [])).threads[((initSInside (E.1.setVm vm1) E.2 T.toThrowableT Z self msg).setTop (initSJ T.toThrowableT Z self msg 1 [])).cur]?).getD { frames := [] })
      ((initSInside (E.1.setVm vm1) E.2 T.toThrowableT Z self msg).setTop (initSJ T.toThrowableT Z self msg 1 [])).frames T.codeObj.maxLocals = false :=
    roomAbove (pushed := [.java (initSJ T.toThrowableT Z self msg 1 [])]) (base := .java E.2 :: E.1.frames.tail) (free := 56) (lim := lim) (State.frames_setTop _ (hfI vm1)) (by rw [State.stackLimits_setTop _ (htopI vm1)]; exact hlimI vm1)
      (by rw [← hlen]; simp only [List.length_cons, List.length_nil]; omega) (by rw [f6]; omega) (by rw [hw13, hobjLocals]; omega)
  have tk : ∀ {f : Field} {v : Value}, Takes s₀ cell f v → Takes s₀ (preparedCellV T.toThrowableT cell self u0 sen) f v := fun h' => ⟨by simpa [preparedCellV, Cell.setSlot] using h'.1, h'.2⟩
  have hv0P : (preparedCellV T.toThrowableT cell self u0 sen).slots[N.fState.slot]? = some (.int 0) := by
    simp [preparedCellV, Cell.setSlot, hneC, hneSt, hneP, hv0]
  have hvSP : (preparedCellV T.toThrowableT cell self u0 sen).slots[T.fStack.slot]? = some u0.v := by
    have h1 : T.fStack.slot < cell.slots.size := htS.1
    simp [preparedCellV, Cell.setSlot, Ne.symm L.stackApartSupp, h1]
  have hcur : E.1.cur = V.cur := fc
  have hIvm : ∀ v1 v2, ((initSInside (E.1.setVm v1) E.2 T.toThrowableT Z self msg).setCell self (preparedCellV T.toThrowableT cell self u0 sen)).setVm v2 = (initSInside (E.1.setVm v2) E.2 T.toThrowableT Z self msg).setCell self (preparedCellV T.toThrowableT cell self u0 sen) := fun _ _ => rfl
  obtain ⟨vm2, hW2, st⟩ := Steps.throwableInitSColdByV p (V := E.1.setVm vm1) (g := E.2) (self := self) hA' hexec T L Z LZ M LM hW1 (F := fun u => u.setCell self (npeBareV T.toThrowableT N.toNpeT cell self u0 sen)) (heapOnly_id.thenSetCell self _) (fun _ _ => rfl) (u0 := u0) (sen := sen) hmsg
    (cell := cell) (cF := npeBareV T.toThrowableT N.toNpeT cell self u0 sen) hcE hknown (fun u hu => heapAt_setCell_self _ (Array.getElem?_eq_some_iff.mp hu).1) rfl rfl (by simp [npeBareV, preparedCellV, Cell.setSlot]) htM hdg' (mSel := N.fill) (methSel := N.methFill) (kSel := N.kN) hobj hselF LN.method LN.fillAbstract LN.cls LN.notInterface
    (fun v1 hv1 hAt => by
      have hPc : ((initSInside (E.1.setVm v1) E.2 T.toThrowableT Z self msg).setCell self (preparedCellV T.toThrowableT cell self u0 sen)).heap[self]? = some (preparedCellV T.toThrowableT cell self u0 sen) := heapAt_setCell_self (s := initSInside (E.1.setVm v1) E.2 T.toThrowableT Z self msg) _ hlt
      have hPS : ((initSInside (E.1.setVm v1) E.2 T.toThrowableT Z self msg).setCell self (preparedCellV T.toThrowableT cell self u0 sen)).heap[T.aS]? = some cellS := by
        rw [heapAt_setCell_ne _ (Ne.symm hneS)]; exact hcSE
      have hPcur : ((initSInside (E.1.setVm v1) E.2 T.toThrowableT Z self msg).setCell self (preparedCellV T.toThrowableT cell self u0 sen)).cur = V.cur := hcur
      obtain ⟨v2, hv2, st2⟩ := vn_fill p (V := (initSInside (E.1.setVm v1) E.2 T.toThrowableT Z self msg).setCell self (preparedCellV T.toThrowableT cell self u0 sen)) (g := initSJ T.toThrowableT Z self msg 24 []) (c := Z.code) (self := self) hAt hexec htr T L N LN (show s₀.WarmedH v1 from hv1) (u0 := u0) (cell := preparedCellV T.toThrowableT cell self u0 sen) (cellS := cellS) (kcell := kcell) (ig := .invokevirtual 27) (len := 3)
        hPc hobj hknown hfree hkcell hsel0 hPS hneS hknownS hvU hv0P hneSt hvSP (tk htS) (tk ht1) (by rw [hPcur]; exact hskip) (lim := lim)
        (hlimI v1)
        (by show (initSInside (E.1.setVm v1) E.2 T.toThrowableT Z self msg).frames.length + 2 < lim.1
            rw [hfI v1, List.length_cons, ← hlen]; omega)
        (by show (stackUse (.java (initSJ T.toThrowableT Z self msg 24 []) :: (initSInside (E.1.setVm v1) E.2 T.toThrowableT Z self msg).frames.tail)).2 + 43 ≤ lim.2
            have h13 := hw13 24
            rw [stackUse_java, stackUse_nil] at h13
            rw [hfI v1, List.tail_cons, stackUse_java]
            have h14 : (0, 0).2 + ((initSJ T.toThrowableT Z self msg 24 []).locals.size + 11 + 2 * (initSJ T.toThrowableT Z self msg 24 []).monitorRoom + operandWords (initSJ T.toThrowableT Z self msg 24 []).stack) = 13 := h13
            have h15 : (stackUse (.java E.2 :: E.1.frames.tail)).2 + 56 ≤ lim.2 := by rw [f6]; omega
            simp only at h14 ⊢
            omega)
        (by rw [LZ.bytes]; exact LibCode.Throwable.InitS.at_24)
      refine ⟨v2, hv2, fun t' hs => st2 t' ?_⟩
      rw [hPcur, npeBareV_eq T.toThrowableT N.toNpeT self u0 sen V.cur hfree hcount, hIvm]
      exact hs)
    [] hcSE hneS hknownS hvU hvSen htC htS htP hroom hroomO
  refine ⟨vm2, hW2, fun t' hs => st t' ?_⟩
  rw [setCell_twice, setCell_twice]
  exact hs
end VN
end
section
/-! 'throw new NullPointerException("text")' as one row of a walk -/
section VT
/-- the words of it -/
def npAt (own : String) (ic : Nat) : List Cond :=
  Bundle.throwableAtoms ++ Bundle.throwableSAtoms ++ Bundle.npeAtoms ++ Bundle.chainSAtoms Bundle.nN [Bundle.rN, Bundle.eN] ++
  [.methodLink own ic (Bundle.initS Bundle.nN), .instantiable Bundle.nN 8, .castable Bundle.nN Bundle.nN, .selects Bundle.nN Bundle.tFill0 Bundle.tFill0, .selects Bundle.nN Bundle.tFill Bundle.nFill,
   .lays Bundle.nN Bundle.tN "cause" "Ljava/lang/Throwable;", .lays Bundle.nN Bundle.tN "stackTrace" Bundle.steD, .lays Bundle.nN Bundle.tN "suppressedExceptions" Bundle.listD, .lays Bundle.nN Bundle.tN "detailMessage" "Ljava/lang/String;",
   .isRef (.static Bundle.tN "UNASSIGNED_STACK" Bundle.steD), .isRef (.static Bundle.tN "SUPPRESSED_SENTINEL" Bundle.listD),
   .fieldLink Bundle.tN 198 Bundle.tN "backtrace" Bundle.objD, .lays Bundle.tN Bundle.tN "backtrace" Bundle.objD, .lays Bundle.nN Bundle.tN "backtrace" Bundle.objD]
variable {p : Program} {l : Launch} {e : Env} {R : Room} {s : State} {m : MethodId} {args : Array Value} {below : List Frame} {meth : Method} {c : Code} {H : Heap} {locs : List Loc} {cells slots : Nat} {Q : State → Prop}
set_option maxHeartbeats 1000000 in
theorem vn_ctor {W0 : State} (X : Stand p l e R s m args below meth c W0 locs cells slots) (hexec : p.tables.exec = Jvm.exec) (htr : e.platform.stackTraces = false) {own : String} {ic : Nat}
    (hown : s.vm.findClass own = some m.cls) (h : ∀ a ∈ npAt own ic, a.before args s = true)
    (hlocs : ∀ x ∈ locs, ∀ cell, s.heap[x.base]? = some cell → cell.vm.isStatics = false)
    {a : Addr} {cX : ClassId} {kX : Class} (hfoundX : s.vm.findClass Bundle.nN = some cX) (hkX : s.vm.classes[cX]? = some kX) (hcell : W0.heap[a]? = some (freshCell cX kX)) (hnew : s.heap.size ≤ a)
    {msg : Value} (hmsg : msg.isRef = true)
    {g : JFrame} (hg : g.method = m) (hsize : g.locals.size = c.maxLocals) (hlocked : g.locked = none) (hentered : g.entered = []) {rest : List Value} (hstack : g.stack = msg :: .ref a :: .ref a :: rest)
    (hd6 : decode c.code g.pc = .ok (.invokespecial ic, 3)) (hd9 : decode c.code (g.pc + 3) = .ok (.athrow, 1)) (hout : ∀ x ∈ c.exceptionTable.toList, covers x (g.pc + 3) = false)
    (hRframes : 7 < R.frames) (hRlocals : 2 * g.monitorRoom + ((Value.ref a :: rest).map fun v => v.category).sum + 120 ≤ R.locals) (hlocks : meth.locks = false) :
    ∃ U : State, Steps p.tables e below (W0.setTop g) U ∧ U.status = .running ∧ Ended U below (.threw a) ∧ s.WarmedH U.vm ∧ s.sameButNew ({ U with vm := s.vm } : State) locs cells slots ∧
      ∃ ce, U.heap[a]? = some ce ∧ s.vm.findClass Bundle.nN = some ce.cls ∧ ce.vm = .none := by
  have howns : e.platform.frameOwnsMonitors = true := by rw [X.admits.platform]
  have hfin : e.platform.finalization = false := by rw [X.admits.platform]
  have hpl : e.platform.magicAccessors = ({} : Platform).magicAccessors := by rw [X.admits.platform]
  have hpl2 : e.platform.arrayCloneIsPublic = true := by rw [X.admits.platform]
  have a' : ∀ x, x ∈ npAt own ic → x.holds args s none s [] = true := fun x hx => h x hx
  obtain ⟨T, Z0, L, -, Y⟩ := ThrowableC.of_atoms (args := args) howns hfin hpl (fun x hx => h x (by simp [npAt, hx]))
  obtain ⟨Z, M, LZ, LM, hnZ⟩ := Init0T.ofS_atoms (args := args) hpl L Y (fun x hx => h x (by simp [npAt, hx]))
  obtain ⟨N, LN, hcN, hnNF, hordN, hffS⟩ := NpeC.of_atoms (args := args) hpl hpl2 L Y (fun x hx => h x (by simp [npAt, hx]))
  obtain ⟨P1, Ps, hlen, L1, hL, hP1m, hlink1, hlink⟩ := Bundle.chainS (args := args) hpl hnZ [Bundle.rN, Bundle.eN] Bundle.nN (by decide) (by decide) (fun x hx => h x (by simp [npAt, hx]))
  have hlen2 : Ps.length = 2 := hlen
  have hfound : s.vm.findClass Bundle.nN = some P1.m.cls := findClass_of_methodNamed hP1m
  cases Option.some.inj (hfoundX.symm.trans hfound)
  have ecls : N.cN = P1.m.cls := Option.some.inj (hcN.symm.trans hfound)
  have hkN : s.vm.classes[P1.m.cls]? = some N.kN := by rw [← ecls]; exact LN.cls
  cases Option.some.inj (hkX.symm.trans hkN)
  have hsel0 : selectMethod e.platform s.vm P1.m.cls T.fill0 = .method T.fill0 := by
    obtain ⟨c2, r2, m2, q1, q2, q3, q4, -⟩ := Cond.selects_spec (a' (.selects Bundle.nN Bundle.tFill0 Bundle.tFill0) (by simp [npAt]))
    cases Option.some.inj (q1.symm.trans hfound)
    cases Option.some.inj (q2.symm.trans (State.methodFound?_of_named Y.fill0 (by decide)))
    cases Option.some.inj (q3.symm.trans Y.fill0)
    rw [Launch.admits_selectMethod X.admits]; exact q4
  have hselF : selectMethod e.platform s.vm P1.m.cls T.fill = .method N.fill := by
    obtain ⟨c2, r2, m2, q1, q2, q3, q4, -⟩ := Cond.selects_spec (a' (.selects Bundle.nN Bundle.tFill Bundle.nFill) (by simp [npAt]))
    cases Option.some.inj (q1.symm.trans hfound)
    cases Option.some.inj (q2.symm.trans (State.methodFound?_of_named Y.fill (by decide)))
    cases Option.some.inj (q3.symm.trans hnNF)
    rw [Launch.admits_selectMethod X.admits]; exact q4
  obtain ⟨cellS0, hcS0, hiss⟩ := Y.statics
  obtain ⟨u0, hu0⟩ := Cond.staticRefV Y.unassigned L.unassignedStatic L.statics hcS0 hiss (a' (.isRef (.static Bundle.tN "UNASSIGNED_STACK" Bundle.steD)) (by simp [npAt]))
  obtain ⟨sen, hsen⟩ := Cond.staticRefV Y.sentinel L.sentinelStatic L.statics hcS0 hiss (a' (.isRef (.static Bundle.tN "SUPPRESSED_SENTINEL" Bundle.listD)) (by simp [npAt]))
  obtain ⟨ci198, i198, fB, hk198, hg198, ha198, hsB, -, hnB, htB, hffB⟩ := Cond.ownField (t := .object "java/lang/Object") Y.found L.cls (by decide +kernel) (a' (.fieldLink Bundle.tN 198 Bundle.tN "backtrace" Bundle.objD) (by simp [npAt])) (a' (.lays Bundle.tN Bundle.tN "backtrace" Bundle.objD) (by simp [npAt])) e.platform hpl
  obtain ⟨cellS, hcS', heS, -, hkeep⟩ := X.same.2.2.2.2.2 T.aS cellS0 hcS0
  have hcellS : W0.heap[T.aS]? = some cellS := hcS'
  have hout' : ∀ i, (⟨T.aS, i⟩ : Loc) ∉ locs := fun i hmem => by
    have := hlocs _ hmem cellS0 hcS0
    rw [hiss] at this; cases this
  have hknownS : cellS.vm ≠ .unknown := by
    rw [heS]; intro hu
    rw [show cellS0.vm = .unknown from hu] at hiss
    cases hiss
  have hneS : T.aS ≠ a := Nat.ne_of_lt (Nat.lt_of_lt_of_le (Array.getElem?_eq_some_iff.mp hcS0).1 hnew)
  obtain ⟨iM, hffM⟩ := Y.msg
  obtain ⟨tyC, dC, hdC, hdnC⟩ := Cond.laysAt hfound hkN Y.cause (a' (.lays Bundle.nN Bundle.tN "cause" "Ljava/lang/Throwable;") (by simp [npAt]))
  obtain ⟨tyS, dS, hdS, hdnS⟩ := Cond.laysAt hfound hkN Y.stack (a' (.lays Bundle.nN Bundle.tN "stackTrace" Bundle.steD) (by simp [npAt]))
  obtain ⟨tyP, dP, hdP, hdnP⟩ := Cond.laysAt hfound hkN Y.supp (a' (.lays Bundle.nN Bundle.tN "suppressedExceptions" Bundle.listD) (by simp [npAt]))
  obtain ⟨tyM, dM, hdM, hdnM⟩ := Cond.laysAt hfound hkN hffM (a' (.lays Bundle.nN Bundle.tN "detailMessage" "Ljava/lang/String;") (by simp [npAt]))
  obtain ⟨tyX, dX, hdX, hdnX⟩ := Cond.laysAt hfound hkN hffS (a' (.lays Bundle.nN Bundle.nN "extendedMessageState" "I") (by simp [npAt, Bundle.npeAtoms]))
  obtain ⟨hnX, htX⟩ := State.fieldFound?_type hffS (t := .int) (by decide +kernel)
  obtain ⟨tyB, dB, hdB, hdnB⟩ := Cond.laysAt hfound hkN hffB (a' (.lays Bundle.nN Bundle.tN "backtrace" Bundle.objD) (by simp [npAt]))
  have xC := Cond.laysApart hdC hdX hdnC hdnX (by rw [hnX, Y.causeName]; decide)
  have xS := Cond.laysApart hdS hdX hdnS hdnX (by rw [hnX, Y.stackName]; decide)
  have xP := Cond.laysApart hdP hdX hdnP hdnX (by rw [hnX, Y.suppName]; decide)
  have bC := Cond.laysApart hdB hdC hdnB hdnC (by rw [hnB, Y.causeName]; decide)
  have bS := Cond.laysApart hdB hdS hdnB hdnS (by rw [hnB, Y.stackName]; decide)
  have bP := Cond.laysApart hdB hdP hdnB hdnP (by rw [hnB, Y.suppName]; decide)
  have bX := Cond.laysApart hdB hdX hdnB hdnX (by rw [hnB, hnX]; decide)
  have hv0 : (freshCell P1.m.cls N.kN).slots[N.fState.slot]? = some (.int 0) := by
    have := fresh_default (c := P1.m.cls) tyX
    rw [htX] at this; exact this
  have tkX := Takes.of_laid (v := .int 1) hkN hordN tyX (by rw [htX]; rfl)
  obtain ⟨tm, methC, cdC, kC, vm₁, hnC, -, -, -, -, -, -, -, hW₁, st1⟩ := Steps.initColdS (tb := p.tables) (e := e) (below := below) (s := s) (U := W0) X.here hexec X.warmed hpl hown (t := Bundle.initS Bundle.nN) rfl rfl (Bundle.fit_spec (n := Bundle.nN) (by decide)).2
    (a' (.methodLink own ic (Bundle.initS Bundle.nN)) (by simp [npAt])) (h (.instanceMethod (Bundle.initS Bundle.nN)) (by simp [npAt, Bundle.chainSAtoms, Bundle.passSAtoms])) (bytes := Bundle.six) (maxL := 2) (h (.code (Bundle.initS Bundle.nN) Bundle.six 2 none) (by simp [npAt, Bundle.chainSAtoms, Bundle.passSAtoms]))
    (f := g) hg (a := a) (msg := msg) (rest := .ref a :: rest) hstack hd6
  cases Option.some.inj (hnC.symm.trans hP1m)
  have X₁ := X.noted hW₁
  have hskip : SkipFacts T e.platform s (fun u => u) u0 ((npeCell N.toNpeT (preparedCellV T.toThrowableT (freshCell P1.m.cls N.kN) a u0 sen) (W0.setVm vm₁).cur).withEntry (W0.setVm vm₁).cur) :=
    ⟨{ ci198 := ci198, i198 := i198, fBack := fB }, ⟨hk198, hg198, ha198, hsB⟩, by
      have := fresh_default (c := P1.m.cls) tyB
      rw [htB] at this
      simpa [npeCell, preparedCellV, Cell.setSlot, Cell.withEntry, Array.getElem?_setIfInBounds, bC, bS, bP, bX, bC.symm, bS.symm, bP.symm, bX.symm, defaultValue] using this, fun _ _ => rfl⟩
  have hAt : At (W0.setVm vm₁) ({ g with stack := .ref a :: rest } : JFrame).method c below := by
    show At (W0.setVm vm₁) g.method c below
    rw [hg]; exact X₁.here
  have hfr' : (W0.setVm vm₁).frames.length + (P1 :: Ps).length + 3 < (e.platform.stackLimits (W0.setVm vm₁).me).1 := by
    have := X₁.framesAbove (n := 7) hRframes
    rw [List.length_cons, hlen2]; omega
  have hwd' : (stackUse (.java ({ g with stack := .ref a :: rest } : JFrame) :: (W0.setVm vm₁).frames.tail)).2 + 13 * (P1 :: Ps).length + 56 ≤ (e.platform.stackLimits (W0.setVm vm₁).me).2 := by
    have := X₁.stackAbove (g := ({ g with stack := .ref a :: rest } : JFrame)) hsize (K := 120) hRlocals
    rw [List.length_cons, hlen2]; omega
  obtain ⟨vm₂, hW₂, st2⟩ := vn_init p (V := W0.setVm vm₁) (g := { g with stack := .ref a :: rest }) (c := c) (self := a) hAt hexec htr T L Z LZ M LM N LN X₁.warmed (u0 := u0) (sen := sen) (msg := msg) hmsg (cell := freshCell P1.m.cls N.kN) (cellS := cellS) (kcell := N.kN)
    hcell (fun _ => by simp) (by simp) rfl rfl hkN hsel0 hcellS hneS hknownS (by rw [hkeep _ (hout' _)]; exact hu0) (by rw [hkeep _ (hout' _)]; exact hsen) hv0 xC xS xP
    (Takes.of_laid hkN hordN tyC (by rw [Y.causeType]; rfl)) (Takes.of_laid hkN hordN tyS (by rw [Y.stackType]; exact fits_refV_array _ u0)) (Takes.of_laid hkN hordN tyP (by rw [Y.suppType]; exact fits_refV_object _ sen))
    (Takes.of_laid hkN hordN tyM (by rw [Y.msgType]; exact fits_refV_object _ ⟨msg, hmsg⟩)) tkX Y.objLocals hskip hselF (P1 :: Ps)
    (fun P hP => by rcases List.mem_cons.mp hP with rfl | hP; exact L1; exact hL P hP) ⟨hlink1, hlink⟩ [] rfl hfr' hwd' hd6
  have X2 := X₁.noted hW₂
  have ha : a < ((W0.setVm vm₁).setVm vm₂).heap.size := (Array.getElem?_eq_some_iff.mp hcell).1
  have X3 := (((((X2.stored (a := a) hcell T.fCause.slot (.ref a)).storedAgain ha T.fStack.slot u0.v).storedAgain ha T.fSupp.slot sen.v).storedAgain ha N.fState.slot (.int 1)).storedAgain ha T.fStack.slot u0.v).storedAgain ha T.fMsg.slot msg
  have X4 : Stand p l e R s m args below meth c (((W0.setVm vm₁).setVm vm₂).setCell a ((npeBareV T.toThrowableT N.toNpeT (freshCell P1.m.cls N.kN) a u0 sen).setSlot T.fMsg.slot msg)) (locs ++ [⟨a, T.fCause.slot⟩, ⟨a, T.fStack.slot⟩, ⟨a, T.fSupp.slot⟩, ⟨a, N.fState.slot⟩, ⟨a, T.fStack.slot⟩, ⟨a, T.fMsg.slot⟩]) cells slots := by
    simpa only [List.append_assoc, List.cons_append, List.nil_append] using X3
  obtain ⟨hwalk, hrun, hended, hWU, hsame⟩ := X4.athrowLeaves hexec (g := { g with stack := .ref a :: rest, pc := g.pc + 3 }) hg hlocked hentered hout (a := a) (rest := rest) rfl hd9
  have hU := heapAt_setCell_self (s := (W0.setVm vm₁).setVm vm₂) ((npeBareV T.toThrowableT N.toNpeT (freshCell P1.m.cls N.kN) a u0 sen).setSlot T.fMsg.slot msg) ha
  refine ⟨_, st1 _ (fun acts => ?_), hrun, hended, hWU, hsame.weaken (fun y hy hlt' => ?_) (Nat.le_refl _) (Nat.le_refl _), _, hU, hfound, rfl⟩
  · rw [doInvoke_state]
    exact st2 _ hwalk
  · rcases List.mem_append.mp hy with h1 | h1
    · exact h1
    · exfalso
      have hb : y.base = a := by
        simp only [List.mem_cons, List.not_mem_nil, or_false] at h1
        rcases h1 with rfl | rfl | rfl | rfl | rfl | rfl <;> rfl
      rw [hb] at hlt'
      exact Nat.not_lt.mpr hnew hlt'
variable {Qc : Array Value → State → Outcome → State → Prop} {XC : String → State → State → Prop} {mc ms : Nat} {free : Addr → Prop} {ls : Array Slot} {rest : List Value}
set_option maxHeartbeats 1000000 in
/-- 'throw new NullPointerException("text")': new; dup; ldc; invokespecial; athrow -/
theorem vn_throw {cc : ByteArray} {pc : Nat} (hexec : p.tables.exec = Jvm.exec) (hb : c.code = cc) (hl : l.stackTraces = false) {own text : String} {ik is ic mc ms sa : Nat} {A : Nat → Prop}
    (hown : s.vm.findClass own = some m.cls)
    (hk : (Cond.classLink own ik Bundle.nN).before args s = true) (hini : (Cond.initialized Bundle.nN).before args s = true) (hstr : vk_R own is text sa s) (hat : ∀ w ∈ (npAt own ic).filter vx_no, w.before args s = true)
    (hgood : ∀ w ∈ Cond.classLink own ik Bundle.nN :: Cond.initialized Bundle.nN :: (npAt own ic).filter vx_no, vx_ot w = true)
    (hU : vx_Zq Bundle.tN "UNASSIGNED_STACK" Bundle.steD A s s.heap) (hN : vx_Zq Bundle.tN "SUPPRESSED_SENTINEL" Bundle.listD A s s.heap) (hS : va_S A s.heap H locs) (hsize : ls.size = c.maxLocals)
    (d0 : decode cc pc = .ok (.new ik, 3)) (d3 : decode cc (pc + 3) = .ok (.dup, 1)) (d4 : decode cc (pc + 4) = .ok (.ldc is, 2)) (d6 : decode cc (pc + 6) = .ok (.invokespecial ic, 3)) (d9 : decode cc (pc + 9) = .ok (.athrow, 1))
    (hout : ∀ x ∈ c.exceptionTable.toList, covers x (pc + 9) = false)
    (hRframes : 7 < R.frames) (hRlocals : (rest.map fun v => v.category).sum + 121 ≤ R.locals) (hRcells : cells + 1 ≤ R.cells) (hRslots : slots + 8 ≤ R.slots) (hlocks : meth.locks = false)
    (hx : ∀ t : State, s.vm.Alike t.vm → H.size ≤ t.heap.size → (∀ q : Nat, q < H.size → t.heap[q]? = H[q]?) → XC Bundle.nN s t)
    (hf : ∀ z ∈ locs, free z.base) (hc : cells + 1 ≤ mc) (hs : slots + 8 ≤ ms) :
    W p l e R s m args below meth c H locs cells slots (vx_MQ below Qc XC args s mc ms free) (F0 m pc ls rest) := by
  intro T hT X
  have htr : e.platform.stackTraces = false := (show e.platform.stackTraces = l.stackTraces by rw [X.admits.platform]).trans hl
  have Y := vx_rebase X (R' := { frames := R.frames, locals := R.locals, cells := 1, slots := 8 }) (Nat.le_refl _) (Nat.le_refl _) hRcells hRslots
  obtain ⟨s', hA⟩ : ∃ z, z = (T.setVm s.vm).setFrames (.invoking m args :: below) := ⟨_, rfl⟩
  rw [← hA] at Y
  have hvm : s'.vm = s.vm := by rw [hA]; rfl
  have hhp : s'.heap = H := by rw [hA]; exact hT
  have hW0 : s.WarmedH s'.vm := by rw [hvm]; exact State.WarmedH.refl s
  have hat' : ∀ w ∈ (npAt own ic).filter vx_no, w.before args s' = true := fun w hw => vx_ot_at hW0 hvm.symm (hgood w (List.mem_cons_of_mem _ (List.mem_cons_of_mem _ hw))) (hat w hw)
  have hk' : (Cond.classLink own ik Bundle.nN).before args s' = true := vx_ot_at hW0 hvm.symm (hgood _ List.mem_cons_self) hk
  have hini' : (Cond.initialized Bundle.nN).before args s' = true := vx_ot_at hW0 hvm.symm (hgood _ (List.mem_cons_of_mem _ List.mem_cons_self)) hini
  have hU' : vx_Zq Bundle.tN "UNASSIGNED_STACK" Bundle.steD A s' s'.heap := by rw [hhp]; exact vx_Zq.moved hW0.alike (hU.kept hS.2.1)
  have hN' : vx_Zq Bundle.tN "SUPPRESSED_SENTINEL" Bundle.listD A s' s'.heap := by rw [hhp]; exact vx_Zq.moved hW0.alike (hN.kept hS.2.1)
  have h : ∀ w ∈ npAt own ic, w.before args s' = true := vx_own hat' (vx_isRefq hU'.1) (vx_isRefq hN'.1) hU'.2.word hN'.2.word
  have hown' : s'.vm.findClass own = some m.cls := by rw [hvm]; exact hown
  have hins : (Cond.instantiable Bundle.nN 8).before args s' = true := h _ (by simp [npAt])
  obtain ⟨vm₁, cX, kX, hfX, hkX, -, -, X₁, st1⟩ := Y.newCold hexec (own := own) (C := Bundle.nN) (index := ik) (n := 8) hown' hk' hins hini'
    (g := F0 m pc ls rest) rfl (by rw [hb]; exact d0) (Nat.le_refl _) (Nat.le_refl _)
  generalize hT1 : (T.setVm vm₁).pushCell { cls := cX, slots := kX.instanceTypes.map defaultValue, vm := .none } = T1 at X₁ st1
  have hcat : (Value.ref T.heap.size).category = 1 := rfl
  have hcellA : T1.heap[T.heap.size]? = some (freshCell cX kX) := by rw [← hT1]; exact State.heap_pushCell_size _ _
  have d3' : decode c.code (pc + 3) = .ok (.dup, 1) := by rw [hb]; exact d3
  have d4' : decode c.code (pc + 4) = .ok (.ldc is, 2) := by rw [hb]; exact d4
  have hstr' : vk_R own is text sa s' := vk_R.warm hW0 hstr
  obtain ⟨U, hsteps, hrun, hend, hW, hsame, ce, hce, hcl0, hcv⟩ := vn_ctor X₁ hexec htr (own := own) (ic := ic) hown' h (fun x hx => nomatch hx) hfX hkX hcellA (by rw [hhp, hT]; exact Nat.le_refl _) (msg := .ref sa) rfl
    (g := { method := m, pc := pc + 6, locals := ls, stack := .ref sa :: .ref T.heap.size :: .ref T.heap.size :: rest, locked := none }) rfl hsize rfl rfl (rest := rest) rfl
    (by rw [hb]; exact d6) (by rw [hb]; exact d9) hout hRframes (by simp only [List.map_cons, List.sum_cons, hcat]; omega) hlocks
  obtain ⟨f1, f2⟩ := vx_frame hsame
  rw [hhp] at f1 f2
  have hWs : s.WarmedH U.vm := State.WarmedH.trans hW0 hW
  have hcl : s.vm.findClass Bundle.nN = some ce.cls := by
    rw [hvm] at hcl0
    exact hcl0
  have hall : s.sameButNew ({ U with vm := s.vm } : State) locs mc ms := by
    subst hA
    obtain ⟨e1, e2⟩ := hsame
    rw [State.setFrames_setFrames] at e1
    have h2 : (T.setVm s.vm).sameButNew ({ U with vm := s.vm } : State) [] (0 + 1) (0 + 8) := ⟨e1, e2⟩
    have h3 := X.same.trans h2
    rw [List.append_nil] at h3
    exact h3.mono hc hs
  refine ⟨U, ?_, .threw T.heap.size, hrun, hend, Or.inr ⟨T.heap.size, rfl, Bundle.nN, ce, locs, hx U hWs.alike f1 (fun q hq => f2 q hq (fun z hz => nomatch hz)), hce, hcv, hcl, hWs, hall, hf⟩⟩
  refine st1 _ ?_
  show Steps p.tables e below (T1.setTop { method := m, pc := pc + 3, locals := ls, stack := .ref T.heap.size :: rest, locked := none }) _
  jvm_step X₁.here [X₁.here.top, hexec, d3', Value.category]
  exact X₁.ldcString hexec (own := own) (text := text) (index := is) (a := sa) hown' hstr'.1 hstr'.2
    (g := { method := m, pc := pc + 4, locals := ls, stack := .ref T.heap.size :: .ref T.heap.size :: rest, locked := none }) rfl d4' _ hsteps
end VT
end
section
/-! METHODS THAT THROW, AND THOSE THAT CATCH: their bodies, ends and calls, in the words of part 05 -/
/-- what holds where E was thrown -/
def KX (D : va_G) (cy : Nat → ClassId) (A : Nat → Prop) (ww : va_W) (E : String) : String → State → State → Prop := vx_X (fun (_ : Unit) => True) (fun E1 _ t => E1 = E ∧ KB D cy A ww t) A
theorem k_openX {l : Launch} {y : MethodName} {ws ws' : List Cond} {rm : Room} {Qc : Array Value → State → Outcome → State → Prop} {XC : String → State → State → Prop} {mc ms : Nat} {A : Nat → Prop} {cc : ByteArray} {maxL : Nat} {ret : Option FieldType} {D : va_G} {cy : Nat → ClassId} {ww : va_W} {av : List Value} {own : String}
    (hy : plainName y.cls = true) (hw : ws = Cond.code y cc maxL ret :: ws') (hown : y.cls = own) (hsz : (lg_sl av).length ≤ maxL)
    (body : ∀ p e s m args below meth c, CallFix p m c cc maxL s args ws own → meth.sig.returnType = ret → meth.locks = false → (∀ x ∈ c.exceptionTable.toList, False) → KI D cy A ww s s.heap [] → ∀ ls, lv_has ls maxL (lv_args 0 av) → W p l e rm s m args below meth c s.heap [] 0 0 (vx_MQ below Qc XC args s mc ms A) (F0 m 0 ls [])) : vx_Met l y ws rm (va_Pc av (KP D cy A ww)) Qc XC mc ms A := by
  refine vx_ofW (cc := cc) (maxL := maxL) (ret := ret) hy hw ?_
  intro p e s m args below meth c s₁ B hml htab hv
  obtain ⟨rfl, hA, hP, hK, hD, hE⟩ := hv
  rw [lg_entry_eq]
  exact body p e s m _ below meth c ⟨B.exec, B.bytes, hml, hown ▸ findClass_of_methodNamed B.named, atoms_spec (ws := ws) B.pre⟩ B.returns B.notSynchronized htab ⟨hK, hE, hA, hP, hD, va_S.rf⟩ _ (lv_entry av hsz)
/-- a method with handlers, out of which nothing comes -/
theorem k_openH {l : Launch} {y : MethodName} {ws ws' : List Cond} {rm : Room} {Qc : Array Value → State → Outcome → State → Prop} {mc ms : Nat} {A : Nat → Prop} {cc : ByteArray} {maxL : Nat} {ret : Option FieldType} {hh : List (Nat × Nat × Nat × Nat)} {D : va_G} {cy : Nat → ClassId} {ww : va_W} {av : List Value} {own : String}
    (hy : plainName y.cls = true) (hw : ws = Cond.codeWith y cc maxL ret hh :: ws') (hown : y.cls = own) (hsz : (lg_sl av).length ≤ maxL)
    (body : ∀ p e s m args below meth c, CallFix p m c cc maxL s args ws own → meth.sig.returnType = ret → meth.locks = false → c.exceptionTable.toList = tableOf hh → KI D cy A ww s s.heap [] → ∀ ls, lv_has ls maxL (lv_args 0 av) → W p l e rm s m args below meth c s.heap [] 0 0 (MQ below Qc args s mc ms A) (F0 m 0 ls [])) : Met l y ws rm (va_Pc av (KP D cy A ww)) Qc mc ms A := by
  refine MetFree.of_bodyS (code := cc) (maxLocals := maxL) (ret := ret) hy ?_ ?_
  · intro args s m h hn
    obtain ⟨m9, meth, c, hn9, h1, h2, h3, h4, -, h5, h6, -⟩ := Cond.codeWith_spec (atoms_spec (ws := ws) h _ (by rw [hw]; exact List.mem_cons_self))
    cases hn.symm.trans hn9
    exact ⟨meth, c, h1, h2, h3, h4, h5, h6⟩
  · intro p e s m args below meth c s₁ B hml hv _
    have hh0 : s₁.heap = s.heap := by rw [B.state]; rfl
    have htab := vx_table (x := y) (hh := hh) B (atoms_spec (ws := ws) B.pre _ (by rw [hw]; exact List.mem_cons_self))
    obtain ⟨rfl, hA, hP, hK, hD, hE⟩ := hv
    have k := body p e s m _ below meth c ⟨B.exec, B.bytes, hml, hown ▸ findClass_of_methodNamed B.named, atoms_spec (ws := ws) B.pre⟩ B.returns B.notSynchronized htab ⟨hK, hE, hA, hP, hD, va_S.rf⟩ _ (lv_entry av hsz)
    rw [← lg_entry_eq] at k
    obtain ⟨t, a1, o, b1, b2, b3⟩ := k s₁ hh0 (Stand.of_body B)
    exact ⟨t, o, a1, b1, b2, b3⟩
section KT
variable {p : Program} {l : Launch} {e : Env} {R : Room} {s : State} {m : MethodId} {args : Array Value} {below : List Frame} {meth : Method} {c : Code} {H : Heap} {locs : List Loc} {cells slots : Nat} {Q : State → Prop}
variable {cc : ByteArray} {nL : Nat} {Ts : List Cond} {own : String} {D : va_G} {cy : Nat → ClassId} {A : Nat → Prop} {ww w1 w2 : va_W} {pc : Nat} {ls : Array Slot} {rest st0 : List Value}
theorem KI.thrown (I : KI D cy A ww s H locs) {E : String} {t : State} (hvm : s.vm.Alike t.vm) (hz : H.size ≤ t.heap.size) (hk : ∀ q : Nat, q < H.size → t.heap[q]? = H[q]?) : KX D cy A ww E E s t := by
  obtain ⟨h1, h2, h3, h4, h5, h6⟩ := I
  refine ⟨(), trivial, ⟨rfl, h4.kept (fun k x hx => hk x.1 ((h4 k x hx).lt)), va_K.moved hvm h1, h5⟩, Nat.le_trans h6.1 hz, fun q q1 q2 => ?_⟩
  rw [hk q (Nat.lt_of_lt_of_le q1 h6.1)]
  exact h6.2.1 q q1 q2
/-- an exception with a text is thrown here -/
theorem k_throwS {Qc : Array Value → State → Outcome → State → Prop} {E text : String} {names : List String} {ik is ic mc ms sa : Nat} (S : CallFix p m c cc nL s args Ts own) (hlk : meth.locks = false) (htab : ∀ x ∈ c.exceptionTable.toList, False) (hfl : l.stackTraces = false) (I : KI D cy A ww s H locs) (hl : ls.size = nL)
    (hcls : Bundle.fit E = true) (hnames : ∀ n ∈ names, Bundle.fit n = true) (hstr : vk_R own is text sa s)
    (hk : Cond.classLink own ik E ∈ Ts) (hini : Cond.initialized E ∈ Ts) (hg1 : ∀ w ∈ (vx_atS own ic E names).filter goodWord, w ∈ Ts) (hg2 : ∀ w ∈ (vx_atS own ic E names).filter (fun w => !goodWord w), w ∈ nwl)
    (hgood : ∀ w ∈ Cond.classLink own ik E :: Cond.initialized E :: vx_atS own ic E names, vx_ot w = true)
    (d0 : decode cc pc = .ok (.new ik, 3)) (d3 : decode cc (pc + 3) = .ok (.dup, 1)) (d4 : decode cc (pc + 4) = .ok (.ldc is, 2)) (d6 : decode cc (pc + 6) = .ok (.invokespecial ic, 3)) (d9 : decode cc (pc + 9) = .ok (.athrow, 1))
    (hRf : names.length + 3 < R.frames) (hRl : (rest.map fun v => v.category).sum + (13 * (names.length + 1) + 43) ≤ R.locals) (hRc : cells + 1 ≤ R.cells) (hRs : slots + 6 ≤ R.slots) (hc : cells + 1 ≤ mc) (hs : slots + 6 ≤ ms) :
    W p l e R s m args below meth c H locs cells slots (vx_MQ below Qc (KX D cy A ww E) args s mc ms A) (F0 m pc ls rest) := by
  have hI := I
  obtain ⟨h1, h2, h3, h4, h5, h6⟩ := I
  exact vx_throwS S.1 S.2.1 hfl S.2.2.2.1 hcls hnames (S.2.2.2.2 _ hk) (S.2.2.2.2 _ hini) hstr (vx_hat (fun w hw => S.2.2.2.2 _ (hg1 w hw)) hg2 (fun w hw => (h2.2.2.2.1 w hw).use (by revert w; decide))) hgood h2.2.1.1 h2.2.1.2 h6 (hl.trans S.2.2.1.symm) d0 d3 d4 d6 d9 (fun x hx => (htab x hx).elim) hRf hRl hRc hRs hlk
    (fun t hvm hz hq => hI.thrown hvm hz hq) h6.2.2 hc hs
/-- a NullPointerException with a text is thrown here -/
theorem k_throwN {Qc : Array Value → State → Outcome → State → Prop} {text : String} {ik is ic mc ms sa : Nat} (S : CallFix p m c cc nL s args Ts own) (hlk : meth.locks = false) (htab : ∀ x ∈ c.exceptionTable.toList, False) (hfl : l.stackTraces = false) (I : KI D cy A ww s H locs) (hl : ls.size = nL)
    (hstr : vk_R own is text sa s)
    (hk : Cond.classLink own ik Bundle.nN ∈ Ts) (hini : Cond.initialized Bundle.nN ∈ Ts) (hg1 : ∀ w ∈ ((npAt own ic).filter vx_no).filter goodWord, w ∈ Ts) (hg2 : ∀ w ∈ ((npAt own ic).filter vx_no).filter (fun w => !goodWord w), w ∈ nwl)
    (hgood : ∀ w ∈ Cond.classLink own ik Bundle.nN :: Cond.initialized Bundle.nN :: (npAt own ic).filter vx_no, vx_ot w = true)
    (d0 : decode cc pc = .ok (.new ik, 3)) (d3 : decode cc (pc + 3) = .ok (.dup, 1)) (d4 : decode cc (pc + 4) = .ok (.ldc is, 2)) (d6 : decode cc (pc + 6) = .ok (.invokespecial ic, 3)) (d9 : decode cc (pc + 9) = .ok (.athrow, 1))
    (hRf : 7 < R.frames) (hRl : (rest.map fun v => v.category).sum + 121 ≤ R.locals) (hRc : cells + 1 ≤ R.cells) (hRs : slots + 8 ≤ R.slots) (hc : cells + 1 ≤ mc) (hs : slots + 8 ≤ ms) :
    W p l e R s m args below meth c H locs cells slots (vx_MQ below Qc (KX D cy A ww Bundle.nN) args s mc ms A) (F0 m pc ls rest) := by
  have hI := I
  obtain ⟨h1, h2, h3, h4, h5, h6⟩ := I
  exact vn_throw S.1 S.2.1 hfl S.2.2.2.1 (S.2.2.2.2 _ hk) (S.2.2.2.2 _ hini) hstr (vx_hat (fun w hw => S.2.2.2.2 _ (hg1 w hw)) hg2 (fun w hw => (h2.2.2.2.1 w hw).use (by revert w; decide))) hgood h2.2.1.1 h2.2.1.2 h6 (hl.trans S.2.2.1.symm) d0 d3 d4 d6 d9 (fun x hx => (htab x hx).elim) hRf hRl hRc hRs hlk
    (fun t hvm hz hq => hI.thrown hvm hz hq) h6.2.2 hc hs
/-- nobody catches here: it goes on to the caller -/
theorem k_out {Qc : Array Value → State → Outcome → State → Prop} {E : String} {ce : Cell} {q9 : Addr} {mc ms : Nat} (hlk : meth.locks = false) (htab : ∀ x ∈ c.exceptionTable.toList, False) (I : KI D cy A ww s H locs) (h1 : H[q9]? = some ce) (h2 : ce.vm = .none) (h3 : s.vm.findClass E = some ce.cls) (hc : cells ≤ mc) (hs : slots ≤ ms) :
    vx_W p l e R s m args below meth c H locs cells slots (vx_MQ below Qc (KX D cy A ww E) args s mc ms A) (F0 m pc ls rest) q9 := by
  have hI := I
  obtain ⟨k1, k2, k3, k4, k5, k6⟩ := I
  exact vx_out (fun x hx => (htab x hx).elim) hlk h1 h2 h3 (fun t ht hvm => hI.thrown hvm (by rw [ht]; exact Nat.le_refl _) (fun q hq => by rw [ht])) k6.2.2 hc hs
section KTV
variable {C : String} {index maxL mc ms n : Nat} {y : MethodName} {bytes : ByteArray} {ret : Option FieldType} {ws : List Cond} {rm : Room} {b : Addr} {As : List Value} {q0 ci : Nat} {fs : List Value} {q : vw_C}
/-- a virtual call that throws E -/
theorem k_VX {Qc : Array Value → State → Outcome → State → Prop} {E : String} (S : CallFix p m c cc nL s args Ts own) (I : KI D cy A ww s H locs) (hM : vx_Met l y ws rm (va_Pc (.ref b :: As) (KP D cy A ww)) (va_Qv (fun (_ : Unit) => False) (fun _ _ => True) A) (KX D cy A w1 E) mc ms A)
    (cw : CallW R s args own C index y bytes maxL ret ws rm mc ms n) (hq : ww[q0]? = some (b, .inr (ci, fs))) (hc : kCl[ci]? = some q) (hC : q.1 = C) (hn : As.length = n) (hl : ls.size = nL) (hst : st0 = As.reverse ++ .ref b :: rest) (hr : (rest.map fun v => v.category).sum ≤ 8) (d : decode cc pc = .ok (.invokevirtual index, 3)) (hf : cells + mc ≤ R.cells ∧ slots + ms ≤ R.slots)
    (kx : ∀ (H1 : Heap) (locs1 : List Loc) (ce : Cell) (q9 : Addr), KI D cy A w1 s H1 locs1 → H1[q9]? = some ce → ce.vm = .none → s.vm.findClass E = some ce.cls → vx_W p l e R s m args below meth c H1 locs1 (cells + mc) (slots + ms) Q (F0 m pc ls rest) q9) : W p l e R s m args below meth c H locs cells slots Q (F0 m pc ls st0) := by
  have hI := I
  obtain ⟨h1, h2, h3, h4, h5, h6⟩ := I
  refine vx_callv (vx_runV (As := As) (rest := rest) S hM cw ⟨KP_blind, hC ▸ va_recv h1 h4 hc hq, fun U hU hW => ⟨rfl, hI.pre hU hW⟩⟩ rfl hn hl hst (lv_room (m := m) (pc := pc) (ls := ls) (rest := st0) hr) d hf) h6 (fun _ _ h => h) (fun _ h => h) (fun _ _ h => h)
    (fun E1 ce q9 u t H1 locs1 ht hvm _ hB hz1 hk1 hS1 g1 g2 g3 => ?_) (fun u t H1 locs1 ht hvm hw hB hz1 hk1 hS1 => hw.elim)
  obtain ⟨rfl, hB⟩ := hB
  exact kx H1 locs1 ce q9 (hI.post ht hB hS1) g1 g2 g3
/-- a static call that throws E -/
theorem k_SX {E : String} (S : CallFix p m c cc nL s args Ts own) (I : KI D cy A ww s H locs) (hM : vx_Met l y ws rm (va_Pc As (KP D cy A ww)) (va_Qv (fun (_ : Unit) => False) (fun _ _ => True) A) (KX D cy A w1 E) mc ms A)
    (cw : CallB R s args own index y bytes maxL ret ws rm mc ms n ∧ (Cond.static y).before args s = true) (hn : As.length = n) (hl : ls.size = nL) (hst : st0 = As.reverse ++ rest) (hr : (rest.map fun v => v.category).sum ≤ 8) (d : decode cc pc = .ok (.invokestatic index, 3)) (hf : cells + mc ≤ R.cells ∧ slots + ms ≤ R.slots)
    (kx : ∀ (H1 : Heap) (locs1 : List Loc) (ce : Cell) (q9 : Addr), KI D cy A w1 s H1 locs1 → H1[q9]? = some ce → ce.vm = .none → s.vm.findClass E = some ce.cls → vx_W p l e R s m args below meth c H1 locs1 (cells + mc) (slots + ms) Q (F0 m pc ls rest) q9) : W p l e R s m args below meth c H locs cells slots Q (F0 m pc ls st0) := by
  have hI := I
  obtain ⟨h1, h2, h3, h4, h5, h6⟩ := I
  refine vx_callv (vx_runS (As := As) (rest := rest) S hM cw ⟨KP_blind, fun U hU hW => ⟨rfl, hI.pre hU hW⟩⟩ rfl hn hl hst (lv_room (m := m) (pc := pc) (ls := ls) (rest := st0) hr) d hf) h6 (fun _ _ h => h) (fun _ h => h) (fun _ _ h => h)
    (fun E1 ce q9 u t H1 locs1 ht hvm _ hB hz1 hk1 hS1 g1 g2 g3 => ?_) (fun u t H1 locs1 ht hvm hw hB hz1 hk1 hS1 => hw.elim)
  obtain ⟨rfl, hB⟩ := hB
  exact kx H1 locs1 ce q9 (hI.post ht hB hS1) g1 g2 g3
/-- a static call that returns nothing -/
theorem k_Sv (S : CallFix p m c cc nL s args Ts own) (I : KI D cy A ww s H locs) (hM : Met l y ws rm (va_Pc As (KP D cy A ww)) (va_Qv (fun (_ : Unit) => True) (fun _ => KB D cy A w1) A) mc ms A)
    (cw : CallB R s args own index y bytes maxL ret ws rm mc ms n ∧ (Cond.static y).before args s = true) (hn : As.length = n) (hl : ls.size = nL) (hst : st0 = As.reverse ++ rest) (hr : (rest.map fun v => v.category).sum ≤ 8) (d : decode cc pc = .ok (.invokestatic index, 3)) (hf : cells + mc ≤ R.cells ∧ slots + ms ≤ R.slots)
    (kk : ∀ (H1 : Heap) (locs1 : List Loc), KI D cy A w1 s H1 locs1 → W p l e R s m args below meth c H1 locs1 (cells + mc) (slots + ms) Q (F0 m (pc + 3) ls rest)) : W p l e R s m args below meth c H locs cells slots Q (F0 m pc ls st0) := by
  have hI := I
  obtain ⟨h1, h2, h3, h4, h5, h6⟩ := I
  refine va_callv (va_runS (As := As) (rest := rest) S hM cw ⟨KP_blind, fun U hU hW => ⟨rfl, hI.pre hU hW⟩⟩ rfl hn hl hst (lv_room (m := m) (pc := pc) (ls := ls) (rest := st0) hr) d hf) h6 (fun _ _ h => h) (fun _ h => h) (fun u t H1 locs1 ht hvm hw hB hz1 hk1 hS1 => ?_)
  exact kk H1 locs1 (hI.post ht hB hS1)
/-- a static call of a method with handlers, that answers an int -/
theorem k_SWi {G : Int32} {hh : List (Nat × Nat × Nat × Nat)} (S : CallFix p m c cc nL s args Ts own) (I : KI D cy A ww s H locs) (hM : Met l y ws rm (va_Pc As (KP D cy A ww)) (va_Qi (fun (r : Int32) (_ : Unit) => r = G) (fun _ => KB D cy A w1) A) mc ms A)
    (cw : vx_CSW R s args own index y bytes maxL ret hh ws rm mc ms n) (hn : As.length = n) (hl : ls.size = nL) (hst : st0 = As.reverse ++ rest) (hr : (rest.map fun v => v.category).sum ≤ 8) (d : decode cc pc = .ok (.invokestatic index, 3)) (hf : cells + mc ≤ R.cells ∧ slots + ms ≤ R.slots)
    (kk : ∀ (H1 : Heap) (locs1 : List Loc), KI D cy A w1 s H1 locs1 → W p l e R s m args below meth c H1 locs1 (cells + mc) (slots + ms) Q (F0 m (pc + 3) ls (.int G :: rest))) : W p l e R s m args below meth c H locs cells slots Q (F0 m pc ls st0) := by
  have hI := I
  obtain ⟨h1, h2, h3, h4, h5, h6⟩ := I
  refine va_calli (vx_runSW (As := As) (rest := rest) S hM cw ⟨KP_blind, fun U hU hW => ⟨rfl, hI.pre hU hW⟩⟩ rfl hn hl hst (lv_room (m := m) (pc := pc) (ls := ls) (rest := st0) hr) d hf) h6 (fun _ _ h => h) (fun _ h => h) (fun r u t H1 locs1 ht hvm hw hB hz1 hk1 hS1 => ?_)
  subst hw
  exact kk H1 locs1 (hI.post ht hB hS1)
end KTV
end KT
end
section
/-! ROWS OF THE FACE: what is a level, what count answers -/
theorem isL_1 {k : Nat} (hk : k < 6) : isL (nI k) = 1 := by unfold isL; rw [if_neg (nI_pos (by omega)), if_neg (show ¬ (6 : Int32) ≤ nI k from nI_ge (b := 6) hk (by decide))]
theorem isL_b (x : Int32) : narrow .boolean (.int (isL x)) = .int (isL x) := by
  unfold isL
  split
  · rfl
  · split <;> rfl
theorem isL_of {x : Int32} (h : ¬ isL x = 0) : ∃ k : Nat, k < 6 ∧ x = nI k := by
  unfold isL at h
  split at h
  · exact absurd rfl h
  · split at h
    · exact absurd rfl h
    · rcases pk_ix x (n := 6) (by decide) with h1 | h1 | h1
      · exact absurd h1 (by assumption)
      · exact absurd h1 (by assumption)
      · exact h1
/-- what count answers -/
def cnF (N : rN) (T : rT) (rn x : Int32) : Int32 := if x = 0 then nI N.2 else if x = 1 then rn else if x = 2 then kdT T else if x = 3 then nbT T else if x = 4 then csT T else if x = 5 then lkT T else lnT T
end
section
/-! THE RIG: its face, laid by wip/whole/rig3.py -/
/-- the words of the throws that a method carries -/
def xwA : List Cond := (vx_atS RX3 38 "java/lang/ArrayIndexOutOfBoundsException" ["java/lang/IndexOutOfBoundsException", "java/lang/RuntimeException", "java/lang/Exception"]).filter goodWord ++ ((vx_atS RX3 141 "java/lang/IllegalStateException" ["java/lang/RuntimeException", "java/lang/Exception"]).filter goodWord ++ ((vx_atS RX3 146 "java/lang/UnsupportedOperationException" ["java/lang/RuntimeException", "java/lang/Exception"]).filter goodWord ++ ((vx_atS RX3 151 "java/lang/ArithmeticException" ["java/lang/RuntimeException", "java/lang/Exception"]).filter goodWord ++ (((npAt RX3 103).filter vx_no).filter goodWord))))
theorem xw_good : xwA.all goodWord = true := by decide +kernel
theorem xw_A : ∀ w ∈ (vx_atS RX3 38 "java/lang/ArrayIndexOutOfBoundsException" ["java/lang/IndexOutOfBoundsException", "java/lang/RuntimeException", "java/lang/Exception"]).filter goodWord, w ∈ xwA := fun _ h => List.mem_append_left _ h
theorem xn_A : ∀ w ∈ (vx_atS RX3 38 "java/lang/ArrayIndexOutOfBoundsException" ["java/lang/IndexOutOfBoundsException", "java/lang/RuntimeException", "java/lang/Exception"]).filter (fun w => !goodWord w), w ∈ nwl := by decide +kernel
theorem xw_I : ∀ w ∈ (vx_atS RX3 141 "java/lang/IllegalStateException" ["java/lang/RuntimeException", "java/lang/Exception"]).filter goodWord, w ∈ xwA := fun _ h => List.mem_append_right _ (List.mem_append_left _ h)
theorem xn_I : ∀ w ∈ (vx_atS RX3 141 "java/lang/IllegalStateException" ["java/lang/RuntimeException", "java/lang/Exception"]).filter (fun w => !goodWord w), w ∈ nwl := by decide +kernel
theorem xw_U : ∀ w ∈ (vx_atS RX3 146 "java/lang/UnsupportedOperationException" ["java/lang/RuntimeException", "java/lang/Exception"]).filter goodWord, w ∈ xwA := fun _ h => List.mem_append_right _ (List.mem_append_right _ (List.mem_append_left _ h))
theorem xn_U : ∀ w ∈ (vx_atS RX3 146 "java/lang/UnsupportedOperationException" ["java/lang/RuntimeException", "java/lang/Exception"]).filter (fun w => !goodWord w), w ∈ nwl := by decide +kernel
theorem xw_R : ∀ w ∈ (vx_atS RX3 151 "java/lang/ArithmeticException" ["java/lang/RuntimeException", "java/lang/Exception"]).filter goodWord, w ∈ xwA := fun _ h => List.mem_append_right _ (List.mem_append_right _ (List.mem_append_right _ (List.mem_append_left _ h)))
theorem xn_R : ∀ w ∈ (vx_atS RX3 151 "java/lang/ArithmeticException" ["java/lang/RuntimeException", "java/lang/Exception"]).filter (fun w => !goodWord w), w ∈ nwl := by decide +kernel
theorem xw_N : ∀ w ∈ ((npAt RX3 103).filter vx_no).filter goodWord, w ∈ xwA := fun _ h => List.mem_append_right _ (List.mem_append_right _ (List.mem_append_right _ (List.mem_append_right _ (h))))
theorem xn_N : ∀ w ∈ ((npAt RX3 103).filter vx_no).filter (fun w => !goodWord w), w ∈ nwl := by decide +kernel
theorem xo_A : ∀ w ∈ Cond.classLink RX3 34 "java/lang/ArrayIndexOutOfBoundsException" :: Cond.initialized "java/lang/ArrayIndexOutOfBoundsException" :: (vx_atS RX3 38 "java/lang/ArrayIndexOutOfBoundsException" ["java/lang/IndexOutOfBoundsException", "java/lang/RuntimeException", "java/lang/Exception"]), vx_ot w = true := by decide +kernel
theorem xo_I : ∀ w ∈ Cond.classLink RX3 137 "java/lang/IllegalStateException" :: Cond.initialized "java/lang/IllegalStateException" :: (vx_atS RX3 141 "java/lang/IllegalStateException" ["java/lang/RuntimeException", "java/lang/Exception"]), vx_ot w = true := by decide +kernel
theorem xo_U : ∀ w ∈ Cond.classLink RX3 142 "java/lang/UnsupportedOperationException" :: Cond.initialized "java/lang/UnsupportedOperationException" :: (vx_atS RX3 146 "java/lang/UnsupportedOperationException" ["java/lang/RuntimeException", "java/lang/Exception"]), vx_ot w = true := by decide +kernel
theorem xo_R : ∀ w ∈ Cond.classLink RX3 147 "java/lang/ArithmeticException" :: Cond.initialized "java/lang/ArithmeticException" :: (vx_atS RX3 151 "java/lang/ArithmeticException" ["java/lang/RuntimeException", "java/lang/Exception"]), vx_ot w = true := by decide +kernel
theorem xo_N : ∀ w ∈ Cond.classLink RX3 99 Bundle.nN :: Cond.initialized Bundle.nN :: ((npAt RX3 103).filter vx_no), vx_ot w = true := by decide +kernel
theorem gx_W {a b xw : List Cond} (h : GoodIn a b) (hx : xw.all goodWord = true) : GoodIn (a ++ xw) (b ++ xw) := fun w hw => (List.mem_append.mp hw).elim (fun h1 => ⟨List.mem_append_left _ (h w h1).1, (h w h1).2⟩) (fun h1 => ⟨List.mem_append_right _ h1, good_of_word (List.all_eq_true.mp hx w h1)⟩)
theorem gx_L {a b xw : List Cond} (h : GoodIn a b) : GoodIn (a ++ xw) b := fun w hw => ⟨List.mem_append_left _ (h w hw).1, (h w hw).2⟩
theorem gx_V {o C : String} {i : Nat} {y : MethodName} {a b xw : List Cond} (h : GoodIn a (wsV o i C y b)) (hx : xw.all goodWord = true) : GoodIn (a ++ xw) (wsV o i C y (b ++ xw)) := by
  have h2 := gx_W h hx
  unfold wsV at h2 ⊢
  rwa [List.append_assoc] at h2
theorem gx_S {o : String} {i : Nat} {y : MethodName} {a b xw : List Cond} (h : GoodIn a (va_wsS o i y b)) (hx : xw.all goodWord = true) : GoodIn (a ++ xw) (va_wsS o i y (b ++ xw)) := by
  have h2 := gx_W h hx
  unfold va_wsS at h2 ⊢
  rwa [List.append_assoc] at h2
def wtX3_set : List Cond := wsX3_set ++ xwA
def wtX3_run : List Cond := wsX3_run ++ xwA
def wtX3_note : List Cond := wsX3_note ++ xwA
def wtX3_count : List Cond := wsX3_count ++ xwA
def wtX3_throwOut : List Cond := wsX3_throwOut ++ xwA
theorem in_X3_set_X0 : ∀ w ∈ u_ws RX0 TX0 4, w ∈ wsX3_set := by decide +kernel
theorem in_X3_set_X3 : ∀ w ∈ u_ws RX3 TX3 4, w ∈ wsX3_set := by decide +kernel
theorem it_X3_set_X0 : ∀ w ∈ u_ws RX0 TX0 4, w ∈ wtX3_set := fun w h => List.mem_append_left _ (in_X3_set_X0 w h)
theorem it_X3_set_X3 : ∀ w ∈ u_ws RX3 TX3 4, w ∈ wtX3_set := fun w h => List.mem_append_left _ (in_X3_set_X3 w h)
theorem in_X3_run_X3 : ∀ w ∈ u_ws RX3 TX3 4, w ∈ wsX3_run := by decide +kernel
theorem it_X3_run_X3 : ∀ w ∈ u_ws RX3 TX3 4, w ∈ wtX3_run := fun w h => List.mem_append_left _ (in_X3_run_X3 w h)
theorem in_X3_note_X1 : ∀ w ∈ u_ws RX1 TX1 2, w ∈ wsX3_note := by decide +kernel
theorem in_X3_note_X3 : ∀ w ∈ u_ws RX3 TX3 4, w ∈ wsX3_note := by decide +kernel
theorem it_X3_note_X1 : ∀ w ∈ u_ws RX1 TX1 2, w ∈ wtX3_note := fun w h => List.mem_append_left _ (in_X3_note_X1 w h)
theorem it_X3_note_X3 : ∀ w ∈ u_ws RX3 TX3 4, w ∈ wtX3_note := fun w h => List.mem_append_left _ (in_X3_note_X3 w h)
theorem in_X3_count_X1 : ∀ w ∈ u_ws RX1 TX1 2, w ∈ wsX3_count := by decide +kernel
theorem in_X3_count_X3 : ∀ w ∈ u_ws RX3 TX3 4, w ∈ wsX3_count := by decide +kernel
theorem it_X3_count_X1 : ∀ w ∈ u_ws RX1 TX1 2, w ∈ wtX3_count := fun w h => List.mem_append_left _ (in_X3_count_X1 w h)
theorem it_X3_count_X3 : ∀ w ∈ u_ws RX3 TX3 4, w ∈ wtX3_count := fun w h => List.mem_append_left _ (in_X3_count_X3 w h)
set_option maxHeartbeats 4000000 in
set_option maxRecDepth 100000 in
/-- set, no such level -/
theorem c_rset0 (l : Launch) (hfl : l.stackTraces = false) (D : va_G) (cy : Nat → ClassId) (A : Nat → Prop) (ad : Nat → Nat) (C : rC) (N : rN) (T : rT) (rn : Int32) (X : va_W) (x a b d v : Int32) (hx0 : isL x = 0) : vx_Met l yX3_set wtX3_set ({ frames := 12, cells := 1, slots := 8, locals := 300 }) (va_Pc [.ref (ad 0), .int x, .int a, .int b, .int d, .int v] (KP D cy A (rgW ad cy C N T rn X))) (va_Qv (fun (_ : Unit) => False) (fun _ _ => True) A) (KX D cy A (rgW ad cy C N T rn X) "java/lang/ArrayIndexOutOfBoundsException") 1 8 A := by
  refine k_openX (own := RX3) (maxL := 8) (ret := (some .int)) (by decide) rfl rfl (Nat.le_of_ble_eq_true rfl) (fun p e s m args below meth c S hr hlk htab I ls hl => ?_)
  obtain ⟨hx, hb, hml, hown, hts⟩ := id S
  have hl : lv_has ls 8 [(0, .ref (ad 0)), (1, .int x), (2, .int a), (3, .int b), (4, .int d), (5, .int v)] := hl
  refine lv_iload_n hx hb dX3_set_0 rfl (lv_at hl 1 rfl) ?_
  refine k_Si (As := [.int x]) (rest := []) (w1 := rgW ad cy C N T rn X) (G := isL x) S I (c_isLevel l D cy A ad C N T rn X x) (va_cwS 1 hts (gx_L gX3_set_X3_isLevel) rfl rfl rfl (by decide +kernel) ⟨Nat.le_of_ble_eq_true rfl, Nat.le_of_ble_eq_true rfl⟩) rfl hl.1 rfl (Nat.le_of_ble_eq_true rfl) dX3_set_1 ⟨Nat.zero_le _, Nat.zero_le _⟩ (fun H locs I => ?_)
  refine lv_if_ne (tgt := 17) hx hb dX3_set_4 (by decide) (fun c_4 => ?_) (fun c_4 => ?_)
  · exact absurd hx0 c_4
  · obtain ⟨sa, hsa⟩ := I.2.1.2.2.1.1
    exact k_throwS (names := ["java/lang/IndexOutOfBoundsException", "java/lang/RuntimeException", "java/lang/Exception"]) S hlk htab hfl I hl.1 (by decide) (by decide) hsa (List.mem_append_left _ (by decide +kernel)) (List.mem_append_left _ (by decide +kernel)) (fun w hw => List.mem_append_right _ (xw_A w hw)) xn_A xo_A dX3_set_7 dX3_set_10 dX3_set_11 dX3_set_13 dX3_set_16 (Nat.le_of_ble_eq_true rfl) (Nat.le_of_ble_eq_true rfl) (Nat.le_of_ble_eq_true rfl) (Nat.le_of_ble_eq_true rfl) (Nat.le_of_ble_eq_true rfl) (Nat.le_of_ble_eq_true rfl)
set_option maxHeartbeats 4000000 in
set_option maxRecDepth 100000 in
/-- set, a level -/
theorem c_rset1 (l : Launch) (D : va_G) (cy : Nat → ClassId) (A : Nat → Prop) (ad : Nat → Nat) (C : rC) (N : rN) (T : rT) (rn : Int32) (X : va_W) (k : Nat) (hk : k < 6) (a b d v : Int32) : Met l yX3_set wsX3_set ({ frames := 1, cells := 0, slots := 0, locals := 40 }) (va_Pc [.ref (ad 0), .int (nI k), .int a, .int b, .int d, .int v] (KP D cy A (rgW ad cy C N T rn X))) (va_Qi (fun (r : Int32) (_ : Unit) => r = C.2.2.2 k) (fun _ => KB D cy A (rgW ad cy (upd C.1 k a, upd C.2.1 k b, upd C.2.2.1 k d, upd C.2.2.2 k v) N T rn X)) A) 0 0 A := by
  refine k_open (own := RX3) (maxL := 8) (ret := (some .int)) (by decide) rfl rfl (Nat.le_of_ble_eq_true rfl) (fun p e s m args below meth c S hr hlk I ls hl => ?_)
  obtain ⟨hx, hb, hml, hown, hts⟩ := id S
  have hl : lv_has ls 8 [(0, .ref (ad 0)), (1, .int (nI k)), (2, .int a), (3, .int b), (4, .int d), (5, .int v)] := hl
  refine lv_iload_n hx hb dX3_set_0 rfl (lv_at hl 1 rfl) ?_
  refine k_Si (As := [.int (nI k)]) (rest := []) (w1 := rgW ad cy C N T rn X) (G := isL (nI k)) S I (c_isLevel l D cy A ad C N T rn X (nI k)) (va_cwS 1 hts gX3_set_X3_isLevel rfl rfl rfl (by decide +kernel) ⟨Nat.le_of_ble_eq_true rfl, Nat.le_of_ble_eq_true rfl⟩) rfl hl.1 rfl (Nat.le_of_ble_eq_true rfl) dX3_set_1 ⟨Nat.zero_le _, Nat.zero_le _⟩ (fun H locs I => ?_)
  refine lv_if_ne (tgt := 17) hx hb dX3_set_4 (by decide) (fun c_4 => ?_) (fun c_4 => ?_)
  · refine lv_aload_n hx hb dX3_set_17 rfl (lv_at hl 0 rfl) ?_
    refine k_get (T := TX3) (N := 4) (ci := 3) (k := 0) (q0 := 0) (v := .ref (ad 1)) S I in_X3_set_X3 rfl rfl (by decide) (by decide +kernel) rfl dX3_set_18 ?_
    refine lv_iload_n hx hb dX3_set_21 rfl (lv_at hl 1 rfl) ?_
    refine k_aald (q0 := 1) (t0 := 0) (j := k) (b := ad (2 + k)) S I rfl rfl hk (by decide) rfl (lvF_at hk) dX3_set_22 ?_
    refine lv_astore (lv' := [(6, .ref (ad (2 + k))), (0, .ref (ad 0)), (1, .int (nI k)), (2, .int a), (3, .int b), (4, .int d), (5, .int v)]) hx hb dX3_set_23 hl (by decide) rfl (fun ls hl => ?_)
    refine lv_aload hx hb dX3_set_25 (lv_at hl 0 rfl) ?_
    refine k_getN (T := TX0) (N := 4) (ci := 0) (k := 3) (q0 := (2 + k)) (v := .int (C.2.2.2 k)) S I in_X3_set_X0 (rgW_lv hk) rfl (by decide) I.2.1.1.2.2.2.2.2 rfl dX3_set_27 ?_
    refine lv_istore (lv' := [(7, .int (C.2.2.2 k)), (6, .ref (ad (2 + k))), (0, .ref (ad 0)), (1, .int (nI k)), (2, .int a), (3, .int b), (4, .int d), (5, .int v)]) hx hb dX3_set_30 hl (by decide) rfl (fun ls hl => ?_)
    refine lv_aload hx hb dX3_set_32 (lv_at hl 1 rfl) ?_
    refine lv_iload_n hx hb dX3_set_34 rfl (lv_at hl 4 rfl) ?_
    refine k_putN (T := TX0) (N := 4) (ci := 0) (k := 0) (q0 := (2 + k)) (v := .int a) (ty := .int) (fs := (rgL C k)) (w1 := rgW ad cy (upd C.1 k a, C.2) N T rn X) S I in_X3_set_X0 tyX0 tyX0_ok nmX0 (rgW_lv hk) rfl (by decide) I.2.1.1.2.2.1 rfl rfl rfl rfl (Nat.le_of_ble_eq_true rfl) (rgW_set hk (by simp [rgL, pk_us]) (fun j hj => by simp [rgL, pk_un hj])) dX3_set_35 (fun H locs I => ?_)
    refine lv_aload hx hb dX3_set_38 (lv_at hl 1 rfl) ?_
    refine lv_iload_n hx hb dX3_set_40 rfl (lv_at hl 5 rfl) ?_
    refine k_putN (T := TX0) (N := 4) (ci := 0) (k := 1) (q0 := (2 + k)) (v := .int b) (ty := .int) (fs := (rgL (upd C.1 k a, C.2) k)) (w1 := rgW ad cy (upd C.1 k a, upd C.2.1 k b, C.2.2) N T rn X) S I in_X3_set_X0 tyX0 tyX0_ok nmX0 (rgW_lv hk) rfl (by decide) I.2.1.1.2.2.2.1 rfl rfl rfl rfl (Nat.le_of_ble_eq_true rfl) (rgW_set hk (by simp [rgL, pk_us]) (fun j hj => by simp [rgL, pk_un hj])) dX3_set_41 (fun H locs I => ?_)
    refine lv_aload hx hb dX3_set_44 (lv_at hl 1 rfl) ?_
    refine lv_iload hx hb dX3_set_46 (lv_at hl 6 rfl) ?_
    refine k_putN (T := TX0) (N := 4) (ci := 0) (k := 2) (q0 := (2 + k)) (v := .int d) (ty := .int) (fs := (rgL (upd C.1 k a, upd C.2.1 k b, C.2.2) k)) (w1 := rgW ad cy (upd C.1 k a, upd C.2.1 k b, upd C.2.2.1 k d, C.2.2.2) N T rn X) S I in_X3_set_X0 tyX0 tyX0_ok nmX0 (rgW_lv hk) rfl (by decide) I.2.1.1.2.2.2.2.1 rfl rfl rfl rfl (Nat.le_of_ble_eq_true rfl) (rgW_set hk (by simp [rgL, pk_us]) (fun j hj => by simp [rgL, pk_un hj])) dX3_set_48 (fun H locs I => ?_)
    refine lv_aload hx hb dX3_set_51 (lv_at hl 1 rfl) ?_
    refine lv_iload hx hb dX3_set_53 (lv_at hl 7 rfl) ?_
    refine k_putN (T := TX0) (N := 4) (ci := 0) (k := 3) (q0 := (2 + k)) (v := .int v) (ty := .int) (fs := (rgL (upd C.1 k a, upd C.2.1 k b, upd C.2.2.1 k d, C.2.2.2) k)) (w1 := rgW ad cy (upd C.1 k a, upd C.2.1 k b, upd C.2.2.1 k d, upd C.2.2.2 k v) N T rn X) S I in_X3_set_X0 tyX0 tyX0_ok nmX0 (rgW_lv hk) rfl (by decide) I.2.1.1.2.2.2.2.2 rfl rfl rfl rfl (Nat.le_of_ble_eq_true rfl) (rgW_set hk (by simp [rgL, pk_us]) (fun j hj => by simp [rgL, pk_un hj])) dX3_set_55 (fun H locs I => ?_)
    refine lv_iload hx hb dX3_set_58 (lv_at hl 0 rfl) ?_
    exact k_iret S hr hlk I rfl rfl dX3_set_60
  · exact absurd (c_4.symm.trans (isL_1 hk)) (by decide)
theorem kp_lt {x n : Int32} : x < (if 64 < n then 64 else n) ↔ x < n ∧ x < 64 := by
  split
  · rename_i h
    exact ⟨fun q => ⟨Int32.lt_trans q h, q⟩, fun q => q.2⟩
  · rename_i h
    exact ⟨fun q => ⟨q, Int32.lt_of_lt_of_le q (Int32.not_lt.mp h)⟩, fun q => q.1⟩
set_option maxHeartbeats 4000000 in
set_option maxRecDepth 100000 in
/-- note, there is none -/
theorem c_rnote0 (l : Launch) (hfl : l.stackTraces = false) (D : va_G) (cy : Nat → ClassId) (A : Nat → Prop) (ad : Nat → Nat) (C : rC) (N : rN) (T : rT) (rn : Int32) (X : va_W) (hN : N.2 < 100000) (x : Int32) (hn : x < 0 ∨ nI N.2 ≤ x ∨ 64 ≤ x) : vx_Met l yX3_note wtX3_note ({ frames := 12, cells := 1, slots := 8, locals := 300 }) (va_Pc [.ref (ad 0), .int x] (KP D cy A (rgW ad cy C N T rn X))) (va_Qv (fun (_ : Unit) => False) (fun _ _ => True) A) (KX D cy A (rgW ad cy C N T rn X) "java/lang/ArrayIndexOutOfBoundsException") 1 8 A := by
  refine k_openX (own := RX3) (maxL := 2) (ret := (some .int)) (by decide) rfl rfl (Nat.le_of_ble_eq_true rfl) (fun p e s m args below meth c S hr hlk htab I ls hl => ?_)
  obtain ⟨hx, hb, hml, hown, hts⟩ := id S
  have hl : lv_has ls 2 [(0, .ref (ad 0)), (1, .int x)] := hl
  refine lv_iload_n hx hb dX3_note_0 rfl (lv_at hl 1 rfl) ?_
  refine lv_if_lt (tgt := 15) hx hb dX3_note_1 (by decide) (fun c_1 => ?_) (fun c_1 => ?_)
  · obtain ⟨sa, hsa⟩ := I.2.1.2.2.1.2.2.2.2.2.2.1
    exact k_throwS (names := ["java/lang/IndexOutOfBoundsException", "java/lang/RuntimeException", "java/lang/Exception"]) S hlk htab hfl I hl.1 (by decide) (by decide) hsa (List.mem_append_left _ (by decide +kernel)) (List.mem_append_left _ (by decide +kernel)) (fun w hw => List.mem_append_right _ (xw_A w hw)) xn_A xo_A dX3_note_15 dX3_note_18 dX3_note_19 dX3_note_21 dX3_note_24 (Nat.le_of_ble_eq_true rfl) (Nat.le_of_ble_eq_true rfl) (Nat.le_of_ble_eq_true rfl) (Nat.le_of_ble_eq_true rfl) (Nat.le_of_ble_eq_true rfl) (Nat.le_of_ble_eq_true rfl)
  · refine lv_iload_n hx hb dX3_note_4 rfl (lv_at hl 1 rfl) ?_
    refine lv_aload_n hx hb dX3_note_5 rfl (lv_at hl 0 rfl) ?_
    refine k_get (T := TX3) (N := 4) (ci := 3) (k := 1) (q0 := 0) (v := .ref (ad 8)) S I it_X3_note_X3 rfl rfl (by decide) (List.mem_append_left _ (by decide +kernel)) rfl dX3_note_6 ?_
    refine k_Vi (q0 := 8) (As := []) (rest := [.int x]) (w1 := rgW ad cy C N T rn X) (G := if 64 < nI N.2 then 64 else nI N.2) S I (c_kept l D cy A ad C N T rn X hN) (cwV 0 hts (gx_L gX3_note_X1_kept) rfl rfl rfl (by decide +kernel) ⟨Nat.le_of_ble_eq_true rfl, Nat.le_of_ble_eq_true rfl⟩) rfl rfl rfl rfl hl.1 rfl (Nat.le_of_ble_eq_true rfl) dX3_note_9 ⟨Nat.zero_le _, Nat.zero_le _⟩ (fun H locs I => ?_)
    refine lv_icmp_lt (tgt := 25) hx hb dX3_note_12 (by decide) (fun c_12 => ?_) (fun c_12 => ?_)
    · exact absurd hn (fun h => h.elim c_1 (fun h => h.elim (Int32.not_le.mpr (kp_lt.mp c_12).1) (Int32.not_le.mpr (kp_lt.mp c_12).2)))
    · obtain ⟨sa, hsa⟩ := I.2.1.2.2.1.2.2.2.2.2.2.1
      exact k_throwS (names := ["java/lang/IndexOutOfBoundsException", "java/lang/RuntimeException", "java/lang/Exception"]) S hlk htab hfl I hl.1 (by decide) (by decide) hsa (List.mem_append_left _ (by decide +kernel)) (List.mem_append_left _ (by decide +kernel)) (fun w hw => List.mem_append_right _ (xw_A w hw)) xn_A xo_A dX3_note_15 dX3_note_18 dX3_note_19 dX3_note_21 dX3_note_24 (Nat.le_of_ble_eq_true rfl) (Nat.le_of_ble_eq_true rfl) (Nat.le_of_ble_eq_true rfl) (Nat.le_of_ble_eq_true rfl) (Nat.le_of_ble_eq_true rfl) (Nat.le_of_ble_eq_true rfl)
set_option maxHeartbeats 4000000 in
set_option maxRecDepth 100000 in
/-- note, one that was kept -/
theorem c_rnote1 (l : Launch) (D : va_G) (cy : Nat → ClassId) (A : Nat → Prop) (ad : Nat → Nat) (C : rC) (N : rN) (T : rT) (rn : Int32) (X : va_W) (hN : N.2 < 100000) (k : Nat) (h1 : k < N.2) (h2 : k < 64) : Met l yX3_note wsX3_note ({ frames := 3, cells := 0, slots := 0, locals := 60 }) (va_Pc [.ref (ad 0), .int (nI k)] (KP D cy A (rgW ad cy C N T rn X))) (va_Qi (fun (r : Int32) (_ : Unit) => r = N.1 k) (fun _ => KB D cy A (rgW ad cy C N T rn X)) A) 0 0 A := by
  refine k_open (own := RX3) (maxL := 2) (ret := (some .int)) (by decide) rfl rfl (Nat.le_of_ble_eq_true rfl) (fun p e s m args below meth c S hr hlk I ls hl => ?_)
  obtain ⟨hx, hb, hml, hown, hts⟩ := id S
  have hl : lv_has ls 2 [(0, .ref (ad 0)), (1, .int (nI k))] := hl
  refine lv_iload_n hx hb dX3_note_0 rfl (lv_at hl 1 rfl) ?_
  refine lv_if_lt (tgt := 15) hx hb dX3_note_1 (by decide) (fun c_1 => ?_) (fun c_1 => ?_)
  · exact absurd c_1 (nI_pos (by omega))
  · refine lv_iload_n hx hb dX3_note_4 rfl (lv_at hl 1 rfl) ?_
    refine lv_aload_n hx hb dX3_note_5 rfl (lv_at hl 0 rfl) ?_
    refine k_get (T := TX3) (N := 4) (ci := 3) (k := 1) (q0 := 0) (v := .ref (ad 8)) S I in_X3_note_X3 rfl rfl (by decide) (by decide +kernel) rfl dX3_note_6 ?_
    refine k_Vi (q0 := 8) (As := []) (rest := [.int (nI k)]) (w1 := rgW ad cy C N T rn X) (G := if 64 < nI N.2 then 64 else nI N.2) S I (c_kept l D cy A ad C N T rn X hN) (cwV 0 hts gX3_note_X1_kept rfl rfl rfl (by decide +kernel) ⟨Nat.le_of_ble_eq_true rfl, Nat.le_of_ble_eq_true rfl⟩) rfl rfl rfl rfl hl.1 rfl (Nat.le_of_ble_eq_true rfl) dX3_note_9 ⟨Nat.zero_le _, Nat.zero_le _⟩ (fun H locs I => ?_)
    refine lv_icmp_lt (tgt := 25) hx hb dX3_note_12 (by decide) (fun c_12 => ?_) (fun c_12 => ?_)
    · refine lv_aload_n hx hb dX3_note_25 rfl (lv_at hl 0 rfl) ?_
      refine k_get (T := TX3) (N := 4) (ci := 3) (k := 1) (q0 := 0) (v := .ref (ad 8)) S I in_X3_note_X3 rfl rfl (by decide) (by decide +kernel) rfl dX3_note_26 ?_
      refine k_getN (T := TX1) (N := 2) (ci := 1) (k := 0) (q0 := 8) (v := .ref (ad 9)) S I in_X3_note_X1 rfl rfl (by decide) I.2.1.1.1 rfl dX3_note_29 ?_
      refine lv_iload_n hx hb dX3_note_32 rfl (lv_at hl 1 rfl) ?_
      refine k_iald (q0 := 9) (t0 := 1) (j := k) (x := N.1 k) S I rfl rfl h2 (by decide) rfl rfl dX3_note_33 ?_
      exact k_iret S hr hlk I rfl rfl dX3_note_34
    · exact absurd (kp_lt.mpr ⟨nI_lt (b := N.2) h1 (by omega), nI_lt (b := 64) h2 (by decide)⟩) c_12
set_option maxHeartbeats 4000000 in
set_option maxRecDepth 100000 in
/-- count, none such -/
theorem c_rcount0 (l : Launch) (hfl : l.stackTraces = false) (D : va_G) (cy : Nat → ClassId) (A : Nat → Prop) (ad : Nat → Nat) (C : rC) (N : rN) (T : rT) (rn : Int32) (X : va_W) (x : Int32) (hn : x < 0 ∨ 6 < x) : vx_Met l yX3_count wtX3_count ({ frames := 12, cells := 1, slots := 8, locals := 300 }) (va_Pc [.ref (ad 0), .int x] (KP D cy A (rgW ad cy C N T rn X))) (va_Qv (fun (_ : Unit) => False) (fun _ _ => True) A) (KX D cy A (rgW ad cy C N T rn X) Bundle.nN) 1 8 A := by
  refine k_openX (own := RX3) (maxL := 2) (ret := (some .int)) (by decide) rfl rfl (Nat.le_of_ble_eq_true rfl) (fun p e s m args below meth c S hr hlk htab I ls hl => ?_)
  obtain ⟨hx, hb, hml, hown, hts⟩ := id S
  have hl : lv_has ls 2 [(0, .ref (ad 0)), (1, .int x)] := hl
  refine lv_iload_n hx hb dX3_count_0 rfl (lv_at hl 1 rfl) ?_
  rcases k_sw06 x with c_1 | c_1 | c_1 | c_1 | c_1 | c_1 | c_1 | c_1
  · refine lv_tableOut (tgt := 97) hx hb dX3_count_1 c_1 (by decide) ?_
    obtain ⟨sa, hsa⟩ := I.2.1.2.2.1.2.2.2.2.2.2.2
    exact k_throwN S hlk htab hfl I hl.1 hsa (List.mem_append_left _ (by decide +kernel)) (List.mem_append_left _ (by decide +kernel)) (fun w hw => List.mem_append_right _ (xw_N w hw)) xn_N xo_N dX3_count_97 dX3_count_100 dX3_count_101 dX3_count_103 dX3_count_106 (Nat.le_of_ble_eq_true rfl) (Nat.le_of_ble_eq_true rfl) (Nat.le_of_ble_eq_true rfl) (Nat.le_of_ble_eq_true rfl) (Nat.le_of_ble_eq_true rfl) (Nat.le_of_ble_eq_true rfl)
  · exact absurd hn (by rw [c_1]; decide)
  · exact absurd hn (by rw [c_1]; decide)
  · exact absurd hn (by rw [c_1]; decide)
  · exact absurd hn (by rw [c_1]; decide)
  · exact absurd hn (by rw [c_1]; decide)
  · exact absurd hn (by rw [c_1]; decide)
  · exact absurd hn (by rw [c_1]; decide)
set_option maxHeartbeats 4000000 in
set_option maxRecDepth 100000 in
/-- count -/
theorem c_rcount1 (l : Launch) (D : va_G) (cy : Nat → ClassId) (A : Nat → Prop) (ad : Nat → Nat) (C : rC) (N : rN) (T : rT) (rn : Int32) (X : va_W) (hT : T.2.2 ≤ 7) (x : Int32) (hx1 : ¬ x < 0 ∧ ¬ 6 < x) : Met l yX3_count wsX3_count ({ frames := 3, cells := 0, slots := 0, locals := 80 }) (va_Pc [.ref (ad 0), .int x] (KP D cy A (rgW ad cy C N T rn X))) (va_Qi (fun (r : Int32) (_ : Unit) => r = cnF N T rn x) (fun _ => KB D cy A (rgW ad cy C N T rn X)) A) 0 0 A := by
  refine k_open (own := RX3) (maxL := 2) (ret := (some .int)) (by decide) rfl rfl (Nat.le_of_ble_eq_true rfl) (fun p e s m args below meth c S hr hlk I ls hl => ?_)
  obtain ⟨hx, hb, hml, hown, hts⟩ := id S
  have hl : lv_has ls 2 [(0, .ref (ad 0)), (1, .int x)] := hl
  refine lv_iload_n hx hb dX3_count_0 rfl (lv_at hl 1 rfl) ?_
  rcases k_sw06 x with c_1 | c_1 | c_1 | c_1 | c_1 | c_1 | c_1 | c_1
  · exact absurd c_1 (fun h => h.elim (fun h => hx1.1 (Int32.lt_iff_toInt_lt.mpr h)) (fun h => hx1.2 (Int32.lt_iff_toInt_lt.mpr h)))
  · refine lv_tableIn (tgt := 44) hx hb dX3_count_1 (by rw [c_1]; decide) (by rw [c_1]; decide) (by rw [c_1]; rfl) (by decide) ?_
    refine lv_aload_n hx hb dX3_count_44 rfl (lv_at hl 0 rfl) ?_
    refine k_get (T := TX3) (N := 4) (ci := 3) (k := 1) (q0 := 0) (v := .ref (ad 8)) S I in_X3_count_X3 rfl rfl (by decide) (by decide +kernel) rfl dX3_count_45 ?_
    refine k_getN (T := TX1) (N := 2) (ci := 1) (k := 1) (q0 := 8) (v := .int (nI N.2)) S I in_X3_count_X1 rfl rfl (by decide) I.2.1.1.2.1 rfl dX3_count_48 ?_
    exact k_iret S hr hlk I (show cnF N T rn x = nI N.2 from by unfold cnF; rw [if_pos c_1]).symm rfl dX3_count_51
  · refine lv_tableIn (tgt := 52) hx hb dX3_count_1 (by rw [c_1]; decide) (by rw [c_1]; decide) (by rw [c_1]; rfl) (by decide) ?_
    refine lv_aload_n hx hb dX3_count_52 rfl (lv_at hl 0 rfl) ?_
    refine k_get (T := TX3) (N := 4) (ci := 3) (k := 3) (q0 := 0) (v := .int rn) S I in_X3_count_X3 rfl rfl (by decide) (by decide +kernel) rfl dX3_count_53 ?_
    exact k_iret S hr hlk I (show cnF N T rn x = rn from by unfold cnF; rw [if_neg (by rw [c_1]; decide), if_pos c_1]).symm rfl dX3_count_56
  · refine lv_tableIn (tgt := 57) hx hb dX3_count_1 (by rw [c_1]; decide) (by rw [c_1]; decide) (by rw [c_1]; rfl) (by decide) ?_
    refine lv_aload_n hx hb dX3_count_57 rfl (lv_at hl 0 rfl) ?_
    refine k_get (T := TX3) (N := 4) (ci := 3) (k := 2) (q0 := 0) (v := .ref (ad 10)) S I in_X3_count_X3 rfl rfl (by decide) (by decide +kernel) rfl dX3_count_58 ?_
    refine k_Vi (q0 := 10) (As := []) (rest := []) (w1 := rgW ad cy C N T rn X) (G := kdT T) S I (c_kind l D cy A ad C N T rn X hT) (cwV 0 hts gX3_count_X2_kind rfl rfl rfl (by decide +kernel) ⟨Nat.le_of_ble_eq_true rfl, Nat.le_of_ble_eq_true rfl⟩) rfl rfl rfl rfl hl.1 rfl (Nat.le_of_ble_eq_true rfl) dX3_count_61 ⟨Nat.zero_le _, Nat.zero_le _⟩ (fun H locs I => ?_)
    exact k_iret S hr hlk I (show cnF N T rn x = kdT T from by unfold cnF; rw [if_neg (by rw [c_1]; decide), if_neg (by rw [c_1]; decide), if_pos c_1]).symm rfl dX3_count_64
  · refine lv_tableIn (tgt := 65) hx hb dX3_count_1 (by rw [c_1]; decide) (by rw [c_1]; decide) (by rw [c_1]; rfl) (by decide) ?_
    refine lv_aload_n hx hb dX3_count_65 rfl (lv_at hl 0 rfl) ?_
    refine k_get (T := TX3) (N := 4) (ci := 3) (k := 2) (q0 := 0) (v := .ref (ad 10)) S I in_X3_count_X3 rfl rfl (by decide) (by decide +kernel) rfl dX3_count_66 ?_
    refine k_Vi (q0 := 10) (As := []) (rest := []) (w1 := rgW ad cy C N T rn X) (G := nbT T) S I (c_number l D cy A ad C N T rn X hT) (cwV 0 hts gX3_count_X2_number rfl rfl rfl (by decide +kernel) ⟨Nat.le_of_ble_eq_true rfl, Nat.le_of_ble_eq_true rfl⟩) rfl rfl rfl rfl hl.1 rfl (Nat.le_of_ble_eq_true rfl) dX3_count_69 ⟨Nat.zero_le _, Nat.zero_le _⟩ (fun H locs I => ?_)
    exact k_iret S hr hlk I (show cnF N T rn x = nbT T from by unfold cnF; rw [if_neg (by rw [c_1]; decide), if_neg (by rw [c_1]; decide), if_neg (by rw [c_1]; decide), if_pos c_1]).symm rfl dX3_count_72
  · refine lv_tableIn (tgt := 73) hx hb dX3_count_1 (by rw [c_1]; decide) (by rw [c_1]; decide) (by rw [c_1]; rfl) (by decide) ?_
    refine lv_aload_n hx hb dX3_count_73 rfl (lv_at hl 0 rfl) ?_
    refine k_get (T := TX3) (N := 4) (ci := 3) (k := 2) (q0 := 0) (v := .ref (ad 10)) S I in_X3_count_X3 rfl rfl (by decide) (by decide +kernel) rfl dX3_count_74 ?_
    refine k_Vi (q0 := 10) (As := []) (rest := []) (w1 := rgW ad cy C N T rn X) (G := csT T) S I (c_causes l D cy A ad C N T rn X hT) (cwV 0 hts gX3_count_X2_causes rfl rfl rfl (by decide +kernel) ⟨Nat.le_of_ble_eq_true rfl, Nat.le_of_ble_eq_true rfl⟩) rfl rfl rfl rfl hl.1 rfl (Nat.le_of_ble_eq_true rfl) dX3_count_77 ⟨Nat.zero_le _, Nat.zero_le _⟩ (fun H locs I => ?_)
    exact k_iret S hr hlk I (show cnF N T rn x = csT T from by unfold cnF; rw [if_neg (by rw [c_1]; decide), if_neg (by rw [c_1]; decide), if_neg (by rw [c_1]; decide), if_neg (by rw [c_1]; decide), if_pos c_1]).symm rfl dX3_count_80
  · refine lv_tableIn (tgt := 81) hx hb dX3_count_1 (by rw [c_1]; decide) (by rw [c_1]; decide) (by rw [c_1]; rfl) (by decide) ?_
    refine lv_aload_n hx hb dX3_count_81 rfl (lv_at hl 0 rfl) ?_
    refine k_get (T := TX3) (N := 4) (ci := 3) (k := 2) (q0 := 0) (v := .ref (ad 10)) S I in_X3_count_X3 rfl rfl (by decide) (by decide +kernel) rfl dX3_count_82 ?_
    refine k_Vi (q0 := 10) (As := []) (rest := []) (w1 := rgW ad cy C N T rn X) (G := lkT T) S I (c_lastCauseKind l D cy A ad C N T rn X hT) (cwV 0 hts gX3_count_X2_lastCauseKind rfl rfl rfl (by decide +kernel) ⟨Nat.le_of_ble_eq_true rfl, Nat.le_of_ble_eq_true rfl⟩) rfl rfl rfl rfl hl.1 rfl (Nat.le_of_ble_eq_true rfl) dX3_count_85 ⟨Nat.zero_le _, Nat.zero_le _⟩ (fun H locs I => ?_)
    exact k_iret S hr hlk I (show cnF N T rn x = lkT T from by unfold cnF; rw [if_neg (by rw [c_1]; decide), if_neg (by rw [c_1]; decide), if_neg (by rw [c_1]; decide), if_neg (by rw [c_1]; decide), if_neg (by rw [c_1]; decide), if_pos c_1]).symm rfl dX3_count_88
  · refine lv_tableIn (tgt := 89) hx hb dX3_count_1 (by rw [c_1]; decide) (by rw [c_1]; decide) (by rw [c_1]; rfl) (by decide) ?_
    refine lv_aload_n hx hb dX3_count_89 rfl (lv_at hl 0 rfl) ?_
    refine k_get (T := TX3) (N := 4) (ci := 3) (k := 2) (q0 := 0) (v := .ref (ad 10)) S I in_X3_count_X3 rfl rfl (by decide) (by decide +kernel) rfl dX3_count_90 ?_
    refine k_Vi (q0 := 10) (As := []) (rest := []) (w1 := rgW ad cy C N T rn X) (G := lnT T) S I (c_lastCauseNumber l D cy A ad C N T rn X hT) (cwV 0 hts gX3_count_X2_lastCauseNumber rfl rfl rfl (by decide +kernel) ⟨Nat.le_of_ble_eq_true rfl, Nat.le_of_ble_eq_true rfl⟩) rfl rfl rfl rfl hl.1 rfl (Nat.le_of_ble_eq_true rfl) dX3_count_93 ⟨Nat.zero_le _, Nat.zero_le _⟩ (fun H locs I => ?_)
    exact k_iret S hr hlk I (show cnF N T rn x = lnT T from by unfold cnF; rw [if_neg (by rw [c_1]; decide), if_neg (by rw [c_1]; decide), if_neg (by rw [c_1]; decide), if_neg (by rw [c_1]; decide), if_neg (by rw [c_1]; decide), if_neg (by rw [c_1]; decide)]).symm rfl dX3_count_96
set_option maxHeartbeats 4000000 in
set_option maxRecDepth 100000 in
/-- throwOut, nothing came out -/
theorem c_throwOut (l : Launch) (D : va_G) (cy : Nat → ClassId) (A : Nat → Prop) (ad : Nat → Nat) (C : rC) (N : rN) (T : rT) (rn : Int32) (X : va_W) (x : Int32) (hx0 : x = 0) : Met l yX3_throwOut wsX3_throwOut ({ frames := 0, cells := 0, slots := 0, locals := 0 }) (va_Pc [.int x] (KP D cy A (rgW ad cy C N T rn X))) (va_Qv (fun (_ : Unit) => True) (fun _ => KB D cy A (rgW ad cy C N T rn X)) A) 0 0 A := by
  refine k_open (own := RX3) (maxL := 1) (ret := none) (by decide) rfl rfl (Nat.le_of_ble_eq_true rfl) (fun p e s m args below meth c S hr hlk I ls hl => ?_)
  obtain ⟨hx, hb, hml, hown, hts⟩ := id S
  have hl : lv_has ls 1 [(0, .int x)] := hl
  refine lv_iload_n hx hb dX3_throwOut_0 rfl (lv_at hl 0 rfl) ?_
  rcases k_sw15 x with c_1 | c_1 | c_1 | c_1 | c_1 | c_1
  · refine lv_tableOut (tgt := 86) hx hb dX3_throwOut_1 c_1 (by decide) ?_
    exact k_vret S hr hlk I rfl dX3_throwOut_86
  · exact absurd (hx0.symm.trans c_1) (by decide)
  · exact absurd (hx0.symm.trans c_1) (by decide)
  · exact absurd (hx0.symm.trans c_1) (by decide)
  · exact absurd (hx0.symm.trans c_1) (by decide)
  · exact absurd (hx0.symm.trans c_1) (by decide)
set_option maxHeartbeats 4000000 in
set_option maxRecDepth 100000 in
/-- throwOut, kind 1 -/
theorem c_throwOut1 (l : Launch) (hfl : l.stackTraces = false) (D : va_G) (cy : Nat → ClassId) (A : Nat → Prop) (ad : Nat → Nat) (C : rC) (N : rN) (T : rT) (rn : Int32) (X : va_W) (x : Int32) (hx0 : x = 1) : vx_Met l yX3_throwOut wtX3_throwOut ({ frames := 12, cells := 1, slots := 8, locals := 300 }) (va_Pc [.int x] (KP D cy A (rgW ad cy C N T rn X))) (va_Qv (fun (_ : Unit) => False) (fun _ _ => True) A) (KX D cy A (rgW ad cy C N T rn X) "java/lang/IllegalStateException") 1 8 A := by
  refine k_openX (own := RX3) (maxL := 1) (ret := none) (by decide) rfl rfl (Nat.le_of_ble_eq_true rfl) (fun p e s m args below meth c S hr hlk htab I ls hl => ?_)
  obtain ⟨hx, hb, hml, hown, hts⟩ := id S
  have hl : lv_has ls 1 [(0, .int x)] := hl
  refine lv_iload_n hx hb dX3_throwOut_0 rfl (lv_at hl 0 rfl) ?_
  rcases k_sw15 x with c_1 | c_1 | c_1 | c_1 | c_1 | c_1
  · exact absurd hx0 (k_ne c_1 (by decide))
  · refine lv_tableIn (tgt := 36) hx hb dX3_throwOut_1 (by rw [c_1]; decide) (by rw [c_1]; decide) (by rw [c_1]; rfl) (by decide) ?_
    obtain ⟨sa, hsa⟩ := I.2.1.2.2.1.2.1
    exact k_throwS (names := ["java/lang/RuntimeException", "java/lang/Exception"]) S hlk htab hfl I hl.1 (by decide) (by decide) hsa (List.mem_append_left _ (by decide +kernel)) (List.mem_append_left _ (by decide +kernel)) (fun w hw => List.mem_append_right _ (xw_I w hw)) xn_I xo_I dX3_throwOut_36 dX3_throwOut_39 dX3_throwOut_40 dX3_throwOut_42 dX3_throwOut_45 (Nat.le_of_ble_eq_true rfl) (Nat.le_of_ble_eq_true rfl) (Nat.le_of_ble_eq_true rfl) (Nat.le_of_ble_eq_true rfl) (Nat.le_of_ble_eq_true rfl) (Nat.le_of_ble_eq_true rfl)
  · exact absurd (hx0.symm.trans c_1) (by decide)
  · exact absurd (hx0.symm.trans c_1) (by decide)
  · exact absurd (hx0.symm.trans c_1) (by decide)
  · exact absurd (hx0.symm.trans c_1) (by decide)
set_option maxHeartbeats 4000000 in
set_option maxRecDepth 100000 in
/-- throwOut, kind 2 -/
theorem c_throwOut2 (l : Launch) (hfl : l.stackTraces = false) (D : va_G) (cy : Nat → ClassId) (A : Nat → Prop) (ad : Nat → Nat) (C : rC) (N : rN) (T : rT) (rn : Int32) (X : va_W) (x : Int32) (hx0 : x = 2) : vx_Met l yX3_throwOut wtX3_throwOut ({ frames := 12, cells := 1, slots := 8, locals := 300 }) (va_Pc [.int x] (KP D cy A (rgW ad cy C N T rn X))) (va_Qv (fun (_ : Unit) => False) (fun _ _ => True) A) (KX D cy A (rgW ad cy C N T rn X) "java/lang/UnsupportedOperationException") 1 8 A := by
  refine k_openX (own := RX3) (maxL := 1) (ret := none) (by decide) rfl rfl (Nat.le_of_ble_eq_true rfl) (fun p e s m args below meth c S hr hlk htab I ls hl => ?_)
  obtain ⟨hx, hb, hml, hown, hts⟩ := id S
  have hl : lv_has ls 1 [(0, .int x)] := hl
  refine lv_iload_n hx hb dX3_throwOut_0 rfl (lv_at hl 0 rfl) ?_
  rcases k_sw15 x with c_1 | c_1 | c_1 | c_1 | c_1 | c_1
  · exact absurd hx0 (k_ne c_1 (by decide))
  · exact absurd (hx0.symm.trans c_1) (by decide)
  · refine lv_tableIn (tgt := 46) hx hb dX3_throwOut_1 (by rw [c_1]; decide) (by rw [c_1]; decide) (by rw [c_1]; rfl) (by decide) ?_
    obtain ⟨sa, hsa⟩ := I.2.1.2.2.1.2.2.1
    exact k_throwS (names := ["java/lang/RuntimeException", "java/lang/Exception"]) S hlk htab hfl I hl.1 (by decide) (by decide) hsa (List.mem_append_left _ (by decide +kernel)) (List.mem_append_left _ (by decide +kernel)) (fun w hw => List.mem_append_right _ (xw_U w hw)) xn_U xo_U dX3_throwOut_46 dX3_throwOut_49 dX3_throwOut_50 dX3_throwOut_52 dX3_throwOut_55 (Nat.le_of_ble_eq_true rfl) (Nat.le_of_ble_eq_true rfl) (Nat.le_of_ble_eq_true rfl) (Nat.le_of_ble_eq_true rfl) (Nat.le_of_ble_eq_true rfl) (Nat.le_of_ble_eq_true rfl)
  · exact absurd (hx0.symm.trans c_1) (by decide)
  · exact absurd (hx0.symm.trans c_1) (by decide)
  · exact absurd (hx0.symm.trans c_1) (by decide)
set_option maxHeartbeats 4000000 in
set_option maxRecDepth 100000 in
/-- throwOut, kind 3 -/
theorem c_throwOut3 (l : Launch) (hfl : l.stackTraces = false) (D : va_G) (cy : Nat → ClassId) (A : Nat → Prop) (ad : Nat → Nat) (C : rC) (N : rN) (T : rT) (rn : Int32) (X : va_W) (x : Int32) (hx0 : x = 3) : vx_Met l yX3_throwOut wtX3_throwOut ({ frames := 12, cells := 1, slots := 8, locals := 300 }) (va_Pc [.int x] (KP D cy A (rgW ad cy C N T rn X))) (va_Qv (fun (_ : Unit) => False) (fun _ _ => True) A) (KX D cy A (rgW ad cy C N T rn X) "java/lang/ArithmeticException") 1 8 A := by
  refine k_openX (own := RX3) (maxL := 1) (ret := none) (by decide) rfl rfl (Nat.le_of_ble_eq_true rfl) (fun p e s m args below meth c S hr hlk htab I ls hl => ?_)
  obtain ⟨hx, hb, hml, hown, hts⟩ := id S
  have hl : lv_has ls 1 [(0, .int x)] := hl
  refine lv_iload_n hx hb dX3_throwOut_0 rfl (lv_at hl 0 rfl) ?_
  rcases k_sw15 x with c_1 | c_1 | c_1 | c_1 | c_1 | c_1
  · exact absurd hx0 (k_ne c_1 (by decide))
  · exact absurd (hx0.symm.trans c_1) (by decide)
  · exact absurd (hx0.symm.trans c_1) (by decide)
  · refine lv_tableIn (tgt := 56) hx hb dX3_throwOut_1 (by rw [c_1]; decide) (by rw [c_1]; decide) (by rw [c_1]; rfl) (by decide) ?_
    obtain ⟨sa, hsa⟩ := I.2.1.2.2.1.2.2.2.1
    exact k_throwS (names := ["java/lang/RuntimeException", "java/lang/Exception"]) S hlk htab hfl I hl.1 (by decide) (by decide) hsa (List.mem_append_left _ (by decide +kernel)) (List.mem_append_left _ (by decide +kernel)) (fun w hw => List.mem_append_right _ (xw_R w hw)) xn_R xo_R dX3_throwOut_56 dX3_throwOut_59 dX3_throwOut_60 dX3_throwOut_62 dX3_throwOut_65 (Nat.le_of_ble_eq_true rfl) (Nat.le_of_ble_eq_true rfl) (Nat.le_of_ble_eq_true rfl) (Nat.le_of_ble_eq_true rfl) (Nat.le_of_ble_eq_true rfl) (Nat.le_of_ble_eq_true rfl)
  · exact absurd (hx0.symm.trans c_1) (by decide)
  · exact absurd (hx0.symm.trans c_1) (by decide)
set_option maxHeartbeats 4000000 in
set_option maxRecDepth 100000 in
/-- throwOut, kind 4 -/
theorem c_throwOut4 (l : Launch) (hfl : l.stackTraces = false) (D : va_G) (cy : Nat → ClassId) (A : Nat → Prop) (ad : Nat → Nat) (C : rC) (N : rN) (T : rT) (rn : Int32) (X : va_W) (x : Int32) (hx0 : x = 4) : vx_Met l yX3_throwOut wtX3_throwOut ({ frames := 12, cells := 1, slots := 8, locals := 300 }) (va_Pc [.int x] (KP D cy A (rgW ad cy C N T rn X))) (va_Qv (fun (_ : Unit) => False) (fun _ _ => True) A) (KX D cy A (rgW ad cy C N T rn X) Bundle.nN) 1 8 A := by
  refine k_openX (own := RX3) (maxL := 1) (ret := none) (by decide) rfl rfl (Nat.le_of_ble_eq_true rfl) (fun p e s m args below meth c S hr hlk htab I ls hl => ?_)
  obtain ⟨hx, hb, hml, hown, hts⟩ := id S
  have hl : lv_has ls 1 [(0, .int x)] := hl
  refine lv_iload_n hx hb dX3_throwOut_0 rfl (lv_at hl 0 rfl) ?_
  rcases k_sw15 x with c_1 | c_1 | c_1 | c_1 | c_1 | c_1
  · exact absurd hx0 (k_ne c_1 (by decide))
  · exact absurd (hx0.symm.trans c_1) (by decide)
  · exact absurd (hx0.symm.trans c_1) (by decide)
  · exact absurd (hx0.symm.trans c_1) (by decide)
  · refine lv_tableIn (tgt := 66) hx hb dX3_throwOut_1 (by rw [c_1]; decide) (by rw [c_1]; decide) (by rw [c_1]; rfl) (by decide) ?_
    obtain ⟨sa, hsa⟩ := I.2.1.2.2.1.2.2.2.2.1
    exact k_throwN S hlk htab hfl I hl.1 hsa (List.mem_append_left _ (by decide +kernel)) (List.mem_append_left _ (by decide +kernel)) (fun w hw => List.mem_append_right _ (xw_N w hw)) xn_N xo_N dX3_throwOut_66 dX3_throwOut_69 dX3_throwOut_70 dX3_throwOut_72 dX3_throwOut_75 (Nat.le_of_ble_eq_true rfl) (Nat.le_of_ble_eq_true rfl) (Nat.le_of_ble_eq_true rfl) (Nat.le_of_ble_eq_true rfl) (Nat.le_of_ble_eq_true rfl) (Nat.le_of_ble_eq_true rfl)
  · exact absurd (hx0.symm.trans c_1) (by decide)
set_option maxHeartbeats 4000000 in
set_option maxRecDepth 100000 in
/-- throwOut, kind 5 -/
theorem c_throwOut5 (l : Launch) (hfl : l.stackTraces = false) (D : va_G) (cy : Nat → ClassId) (A : Nat → Prop) (ad : Nat → Nat) (C : rC) (N : rN) (T : rT) (rn : Int32) (X : va_W) (x : Int32) (hx0 : x = 5) : vx_Met l yX3_throwOut wtX3_throwOut ({ frames := 12, cells := 1, slots := 8, locals := 300 }) (va_Pc [.int x] (KP D cy A (rgW ad cy C N T rn X))) (va_Qv (fun (_ : Unit) => False) (fun _ _ => True) A) (KX D cy A (rgW ad cy C N T rn X) "java/lang/ArrayIndexOutOfBoundsException") 1 8 A := by
  refine k_openX (own := RX3) (maxL := 1) (ret := none) (by decide) rfl rfl (Nat.le_of_ble_eq_true rfl) (fun p e s m args below meth c S hr hlk htab I ls hl => ?_)
  obtain ⟨hx, hb, hml, hown, hts⟩ := id S
  have hl : lv_has ls 1 [(0, .int x)] := hl
  refine lv_iload_n hx hb dX3_throwOut_0 rfl (lv_at hl 0 rfl) ?_
  rcases k_sw15 x with c_1 | c_1 | c_1 | c_1 | c_1 | c_1
  · exact absurd hx0 (k_ne c_1 (by decide))
  · exact absurd (hx0.symm.trans c_1) (by decide)
  · exact absurd (hx0.symm.trans c_1) (by decide)
  · exact absurd (hx0.symm.trans c_1) (by decide)
  · exact absurd (hx0.symm.trans c_1) (by decide)
  · refine lv_tableIn (tgt := 76) hx hb dX3_throwOut_1 (by rw [c_1]; decide) (by rw [c_1]; decide) (by rw [c_1]; rfl) (by decide) ?_
    obtain ⟨sa, hsa⟩ := I.2.1.2.2.1.2.2.2.2.2.1
    exact k_throwS (names := ["java/lang/IndexOutOfBoundsException", "java/lang/RuntimeException", "java/lang/Exception"]) S hlk htab hfl I hl.1 (by decide) (by decide) hsa (List.mem_append_left _ (by decide +kernel)) (List.mem_append_left _ (by decide +kernel)) (fun w hw => List.mem_append_right _ (xw_A w hw)) xn_A xo_A dX3_throwOut_76 dX3_throwOut_79 dX3_throwOut_80 dX3_throwOut_82 dX3_throwOut_85 (Nat.le_of_ble_eq_true rfl) (Nat.le_of_ble_eq_true rfl) (Nat.le_of_ble_eq_true rfl) (Nat.le_of_ble_eq_true rfl) (Nat.le_of_ble_eq_true rfl) (Nat.le_of_ble_eq_true rfl)
set_option maxHeartbeats 4000000 in
set_option maxRecDepth 100000 in
/-- run, no such level -/
theorem c_rrun0 (l : Launch) (hfl : l.stackTraces = false) (D : va_G) (cy : Nat → ClassId) (A : Nat → Prop) (ad : Nat → Nat) (C : rC) (N : rN) (T : rT) (rn : Int32) (X : va_W) (x b v : Int32) (hx0 : isL x = 0) : vx_Met l yX3_run wtX3_run ({ frames := 80, cells := 1, slots := 8, locals := 3000 }) (va_Pc [.ref (ad 0), .int x, .int b, .int v] (KP D cy A (rgW ad cy C N T rn X))) (va_Qv (fun (_ : Unit) => False) (fun _ _ => True) A) (KX D cy A (rgW ad cy C N T rn X) "java/lang/ArrayIndexOutOfBoundsException") 1 8 A := by
  refine k_openX (own := RX3) (maxL := 6) (ret := (some .long)) (by decide) rfl rfl (Nat.le_of_ble_eq_true rfl) (fun p e s m args below meth c S hr hlk htab I ls hl => ?_)
  obtain ⟨hx, hb, hml, hown, hts⟩ := id S
  have hl : lv_has ls 6 [(0, .ref (ad 0)), (1, .int x), (2, .int b), (3, .int v)] := hl
  refine lv_iload_n hx hb dX3_run_0 rfl (lv_at hl 1 rfl) ?_
  refine k_Si (As := [.int x]) (rest := []) (w1 := rgW ad cy C N T rn X) (G := isL x) S I (c_isLevel l D cy A ad C N T rn X x) (va_cwS 1 hts (gx_L gX3_run_X3_isLevel) rfl rfl rfl (by decide +kernel) ⟨Nat.le_of_ble_eq_true rfl, Nat.le_of_ble_eq_true rfl⟩) rfl hl.1 rfl (Nat.le_of_ble_eq_true rfl) dX3_run_1 ⟨Nat.zero_le _, Nat.zero_le _⟩ (fun H locs I => ?_)
  refine lv_if_ne (tgt := 17) hx hb dX3_run_4 (by decide) (fun c_4 => ?_) (fun c_4 => ?_)
  · exact absurd hx0 c_4
  · obtain ⟨sa, hsa⟩ := I.2.1.2.2.1.1
    exact k_throwS (names := ["java/lang/IndexOutOfBoundsException", "java/lang/RuntimeException", "java/lang/Exception"]) S hlk htab hfl I hl.1 (by decide) (by decide) hsa (List.mem_append_left _ (by decide +kernel)) (List.mem_append_left _ (by decide +kernel)) (fun w hw => List.mem_append_right _ (xw_A w hw)) xn_A xo_A dX3_run_7 dX3_run_10 dX3_run_11 dX3_run_13 dX3_run_16 (Nat.le_of_ble_eq_true rfl) (Nat.le_of_ble_eq_true rfl) (Nat.le_of_ble_eq_true rfl) (Nat.le_of_ble_eq_true rfl) (Nat.le_of_ble_eq_true rfl) (Nat.le_of_ble_eq_true rfl)
theorem cgF_le : ∀ k : Nat, k < 6 → 0 + (3 + 2 * cgF k) < 99000 := by decide
set_option maxHeartbeats 4000000 in
set_option maxRecDepth 100000 in
/-- run that answers -/
theorem c_rrun1 (l : Launch) (D : va_G) (cy : Nat → ClassId) (A : Nat → Prop) (ad : Nat → Nat) (C : rC) (N : rN) (T : rT) (rn : Int32) (X : va_W) (k : Nat) (hk : k < 6) (b v : Int32) (hkd : kdT (dlF C k (gdF C k) b v ((N.1, 0), dpT T)).1.2 = 0) : Met l yX3_run wsX3_run ({ frames := 80, cells := 0, slots := 0, locals := 3000 }) (va_Pc [.ref (ad 0), .int (nI k), .int b, .int v] (KP D cy A (rgW ad cy C N T rn X))) (va_Ql (fun (r : Int64) (_ : Unit) => r = (dlF C k (gdF C k) b v ((N.1, 0), dpT T)).2) (fun _ => KB D cy A (rgW ad cy C ((dlF C k (gdF C k) b v ((N.1, 0), dpT T)).1.1) ((dlF C k (gdF C k) b v ((N.1, 0), dpT T)).1.2) (rn + 1) X)) A) 0 0 A := by
  refine k_open (own := RX3) (maxL := 6) (ret := (some .long)) (by decide) rfl rfl (Nat.le_of_ble_eq_true rfl) (fun p e s m args below meth c S hr hlk I ls hl => ?_)
  obtain ⟨hx, hb, hml, hown, hts⟩ := id S
  have hl : lv_has ls 6 [(0, .ref (ad 0)), (1, .int (nI k)), (2, .int b), (3, .int v)] := hl
  have hc0 : (0 : Nat) + (3 + 2 * cgF k) < 99000 := cgF_le k hk
  refine lv_iload_n hx hb dX3_run_0 rfl (lv_at hl 1 rfl) ?_
  refine k_Si (As := [.int (nI k)]) (rest := []) (w1 := rgW ad cy C N T rn X) (G := isL (nI k)) S I (c_isLevel l D cy A ad C N T rn X (nI k)) (va_cwS 1 hts gX3_run_X3_isLevel rfl rfl rfl (by decide +kernel) ⟨Nat.le_of_ble_eq_true rfl, Nat.le_of_ble_eq_true rfl⟩) rfl hl.1 rfl (Nat.le_of_ble_eq_true rfl) dX3_run_1 ⟨Nat.zero_le _, Nat.zero_le _⟩ (fun H locs I => ?_)
  refine lv_if_ne (tgt := 17) hx hb dX3_run_4 (by decide) (fun c_4 => ?_) (fun c_4 => ?_)
  · refine lv_aload_n hx hb dX3_run_17 rfl (lv_at hl 0 rfl) ?_
    refine lv_dup hx hb dX3_run_18 rfl ?_
    refine k_get (T := TX3) (N := 4) (ci := 3) (k := 3) (q0 := 0) (v := .int rn) S I in_X3_run_X3 rfl rfl (by decide) (by decide +kernel) rfl dX3_run_19 ?_
    refine lv_iconst (v := 1) hx hb dX3_run_22 (by decide) ?_
    refine lv_iadd hx hb dX3_run_23 ?_
    refine k_put (T := TX3) (N := 4) (ci := 3) (k := 3) (q0 := 0) (v := .int (rn + 1)) (ty := .int) (fs := [.ref (ad 1), .ref (ad 8), .ref (ad 10), .int rn]) (w1 := rgW ad cy C N T (rn + 1) X) S I in_X3_run_X3 tyX3 tyX3_ok nmX3 rfl rfl (by decide) (by decide +kernel) rfl rfl rfl rfl (Nat.le_of_ble_eq_true rfl) rfl dX3_run_24 (fun H locs I => ?_)
    refine lv_aload_n hx hb dX3_run_27 rfl (lv_at hl 0 rfl) ?_
    refine k_get (T := TX3) (N := 4) (ci := 3) (k := 1) (q0 := 0) (v := .ref (ad 8)) S I in_X3_run_X3 rfl rfl (by decide) (by decide +kernel) rfl dX3_run_28 ?_
    refine k_Vv (q0 := 8) (As := []) (rest := []) (w1 := rgW ad cy C (N.1, 0) T (rn + 1) X) S I (c_beginAnew l D cy A ad C N T (rn + 1) X) (cwV 0 hts gX3_run_X1_beginAnew rfl rfl rfl (by decide +kernel) ⟨Nat.le_of_ble_eq_true rfl, Nat.le_of_ble_eq_true rfl⟩) rfl rfl rfl rfl hl.1 rfl (Nat.le_of_ble_eq_true rfl) dX3_run_31 ⟨Nat.zero_le _, Nat.zero_le _⟩ (fun H locs I => ?_)
    refine lv_aload_n hx hb dX3_run_34 rfl (lv_at hl 0 rfl) ?_
    refine k_get (T := TX3) (N := 4) (ci := 3) (k := 2) (q0 := 0) (v := .ref (ad 10)) S I in_X3_run_X3 rfl rfl (by decide) (by decide +kernel) rfl dX3_run_35 ?_
    refine k_Vv (q0 := 10) (As := []) (rest := []) (w1 := rgW ad cy C (N.1, 0) (dpT T) (rn + 1) X) S I (c_drop l D cy A ad C (N.1, 0) T (rn + 1) X) (cwV 0 hts gX3_run_X2_drop rfl rfl rfl (by decide +kernel) ⟨Nat.le_of_ble_eq_true rfl, Nat.le_of_ble_eq_true rfl⟩) rfl rfl rfl rfl hl.1 rfl (Nat.le_of_ble_eq_true rfl) dX3_run_38 ⟨Nat.zero_le _, Nat.zero_le _⟩ (fun H locs I => ?_)
    refine lv_aload_n hx hb dX3_run_41 rfl (lv_at hl 0 rfl) ?_
    refine lv_iload_n hx hb dX3_run_42 rfl (lv_at hl 1 rfl) ?_
    refine lv_iload_n hx hb dX3_run_43 rfl (lv_at hl 2 rfl) ?_
    refine lv_iload_n hx hb dX3_run_44 rfl (lv_at hl 3 rfl) ?_
    refine k_Vl (q0 := 0) (As := [.int (nI k), .int b, .int v]) (rest := []) (w1 := rgW ad cy C ((dlF C k (gdF C k) b v ((N.1, 0), dpT T)).1.1) ((dlF C k (gdF C k) b v ((N.1, 0), dpT T)).1.2) (rn + 1) X) (G := (dlF C k (gdF C k) b v ((N.1, 0), dpT T)).2) S I ((c_down l D cy A ad C (rn + 1) X k hk).2 (N.1, 0) (dpT T) b v hc0 (Nat.zero_le _)) (cwV 3 hts gX3_run_X3_doLevel rfl rfl rfl (by decide +kernel) ⟨by show 16 + 10 * k + 1 ≤ 80; omega, by show 8 + (6 + 11) + (700 + 400 * k) ≤ 3000; omega⟩) rfl rfl rfl rfl hl.1 rfl (Nat.le_of_ble_eq_true rfl) dX3_run_45 ⟨Nat.zero_le _, Nat.zero_le _⟩ (fun H locs I => ?_)
    have hh := (dlF_h (C := C) (k := k) (gdF_h C k) b v ((N.1, 0), dpT T) (Nat.zero_le _)).1
    refine lv_lstore (lv' := [(4, .long ((dlF C k (gdF C k) b v ((N.1, 0), dpT T)).2)), (0, .ref (ad 0)), (1, .int (nI k)), (2, .int b), (3, .int v)]) hx hb dX3_run_48 hl (by decide) rfl (fun ls hl => ?_)
    refine lv_aload_n hx hb dX3_run_50 rfl (lv_at hl 1 rfl) ?_
    refine k_get (T := TX3) (N := 4) (ci := 3) (k := 2) (q0 := 0) (v := .ref (ad 10)) S I in_X3_run_X3 rfl rfl (by decide) (by decide +kernel) rfl dX3_run_51 ?_
    refine k_Vi (q0 := 10) (As := []) (rest := []) (w1 := rgW ad cy C ((dlF C k (gdF C k) b v ((N.1, 0), dpT T)).1.1) ((dlF C k (gdF C k) b v ((N.1, 0), dpT T)).1.2) (rn + 1) X) (G := kdT (dlF C k (gdF C k) b v ((N.1, 0), dpT T)).1.2) S I (c_kind l D cy A ad C (dlF C k (gdF C k) b v ((N.1, 0), dpT T)).1.1 (dlF C k (gdF C k) b v ((N.1, 0), dpT T)).1.2 (rn + 1) X hh) (cwV 0 hts gX3_run_X2_kind rfl rfl rfl (by decide +kernel) ⟨Nat.le_of_ble_eq_true rfl, Nat.le_of_ble_eq_true rfl⟩) rfl rfl rfl rfl hl.1 rfl (Nat.le_of_ble_eq_true rfl) dX3_run_54 ⟨Nat.zero_le _, Nat.zero_le _⟩ (fun H locs I => ?_)
    refine k_Sv (As := [.int (kdT (dlF C k (gdF C k) b v ((N.1, 0), dpT T)).1.2)]) (rest := []) (w1 := rgW ad cy C ((dlF C k (gdF C k) b v ((N.1, 0), dpT T)).1.1) ((dlF C k (gdF C k) b v ((N.1, 0), dpT T)).1.2) (rn + 1) X) S I (c_throwOut l D cy A ad C (dlF C k (gdF C k) b v ((N.1, 0), dpT T)).1.1 (dlF C k (gdF C k) b v ((N.1, 0), dpT T)).1.2 (rn + 1) X (kdT (dlF C k (gdF C k) b v ((N.1, 0), dpT T)).1.2) hkd) (va_cwS 1 hts gX3_run_X3_throwOut rfl rfl rfl (by decide +kernel) ⟨Nat.le_of_ble_eq_true rfl, Nat.le_of_ble_eq_true rfl⟩) rfl hl.1 rfl (Nat.le_of_ble_eq_true rfl) dX3_run_57 ⟨Nat.zero_le _, Nat.zero_le _⟩ (fun H locs I => ?_)
    refine lv_lload hx hb dX3_run_60 (lv_at hl 0 rfl) ?_
    exact k_lret S hr hlk I rfl rfl dX3_run_62
  · exact absurd (c_4.symm.trans (isL_1 hk)) (by decide)
set_option maxHeartbeats 4000000 in
set_option maxRecDepth 100000 in
/-- run, out of which kind 1 comes -/
theorem c_rrunX1 (l : Launch) (hfl : l.stackTraces = false) (D : va_G) (cy : Nat → ClassId) (A : Nat → Prop) (ad : Nat → Nat) (C : rC) (N : rN) (T : rT) (rn : Int32) (X : va_W) (k : Nat) (hk : k < 6) (b v : Int32) (hkd : kdT (dlF C k (gdF C k) b v ((N.1, 0), dpT T)).1.2 = 1) : vx_Met l yX3_run wtX3_run ({ frames := 80, cells := 1, slots := 8, locals := 3000 }) (va_Pc [.ref (ad 0), .int (nI k), .int b, .int v] (KP D cy A (rgW ad cy C N T rn X))) (va_Qv (fun (_ : Unit) => False) (fun _ _ => True) A) (KX D cy A (rgW ad cy C ((dlF C k (gdF C k) b v ((N.1, 0), dpT T)).1.1) ((dlF C k (gdF C k) b v ((N.1, 0), dpT T)).1.2) (rn + 1) X) "java/lang/IllegalStateException") 1 8 A := by
  refine k_openX (own := RX3) (maxL := 6) (ret := (some .long)) (by decide) rfl rfl (Nat.le_of_ble_eq_true rfl) (fun p e s m args below meth c S hr hlk htab I ls hl => ?_)
  obtain ⟨hx, hb, hml, hown, hts⟩ := id S
  have hl : lv_has ls 6 [(0, .ref (ad 0)), (1, .int (nI k)), (2, .int b), (3, .int v)] := hl
  have hc0 : (0 : Nat) + (3 + 2 * cgF k) < 99000 := cgF_le k hk
  refine lv_iload_n hx hb dX3_run_0 rfl (lv_at hl 1 rfl) ?_
  refine k_Si (As := [.int (nI k)]) (rest := []) (w1 := rgW ad cy C N T rn X) (G := isL (nI k)) S I (c_isLevel l D cy A ad C N T rn X (nI k)) (va_cwS 1 hts (gx_L gX3_run_X3_isLevel) rfl rfl rfl (by decide +kernel) ⟨Nat.le_of_ble_eq_true rfl, Nat.le_of_ble_eq_true rfl⟩) rfl hl.1 rfl (Nat.le_of_ble_eq_true rfl) dX3_run_1 ⟨Nat.zero_le _, Nat.zero_le _⟩ (fun H locs I => ?_)
  refine lv_if_ne (tgt := 17) hx hb dX3_run_4 (by decide) (fun c_4 => ?_) (fun c_4 => ?_)
  · refine lv_aload_n hx hb dX3_run_17 rfl (lv_at hl 0 rfl) ?_
    refine lv_dup hx hb dX3_run_18 rfl ?_
    refine k_get (T := TX3) (N := 4) (ci := 3) (k := 3) (q0 := 0) (v := .int rn) S I it_X3_run_X3 rfl rfl (by decide) (List.mem_append_left _ (by decide +kernel)) rfl dX3_run_19 ?_
    refine lv_iconst (v := 1) hx hb dX3_run_22 (by decide) ?_
    refine lv_iadd hx hb dX3_run_23 ?_
    refine k_put (T := TX3) (N := 4) (ci := 3) (k := 3) (q0 := 0) (v := .int (rn + 1)) (ty := .int) (fs := [.ref (ad 1), .ref (ad 8), .ref (ad 10), .int rn]) (w1 := rgW ad cy C N T (rn + 1) X) S I it_X3_run_X3 tyX3 tyX3_ok nmX3 rfl rfl (by decide) (List.mem_append_left _ (by decide +kernel)) rfl rfl rfl rfl (Nat.le_of_ble_eq_true rfl) rfl dX3_run_24 (fun H locs I => ?_)
    refine lv_aload_n hx hb dX3_run_27 rfl (lv_at hl 0 rfl) ?_
    refine k_get (T := TX3) (N := 4) (ci := 3) (k := 1) (q0 := 0) (v := .ref (ad 8)) S I it_X3_run_X3 rfl rfl (by decide) (List.mem_append_left _ (by decide +kernel)) rfl dX3_run_28 ?_
    refine k_Vv (q0 := 8) (As := []) (rest := []) (w1 := rgW ad cy C (N.1, 0) T (rn + 1) X) S I (c_beginAnew l D cy A ad C N T (rn + 1) X) (cwV 0 hts (gx_L gX3_run_X1_beginAnew) rfl rfl rfl (by decide +kernel) ⟨Nat.le_of_ble_eq_true rfl, Nat.le_of_ble_eq_true rfl⟩) rfl rfl rfl rfl hl.1 rfl (Nat.le_of_ble_eq_true rfl) dX3_run_31 ⟨Nat.zero_le _, Nat.zero_le _⟩ (fun H locs I => ?_)
    refine lv_aload_n hx hb dX3_run_34 rfl (lv_at hl 0 rfl) ?_
    refine k_get (T := TX3) (N := 4) (ci := 3) (k := 2) (q0 := 0) (v := .ref (ad 10)) S I it_X3_run_X3 rfl rfl (by decide) (List.mem_append_left _ (by decide +kernel)) rfl dX3_run_35 ?_
    refine k_Vv (q0 := 10) (As := []) (rest := []) (w1 := rgW ad cy C (N.1, 0) (dpT T) (rn + 1) X) S I (c_drop l D cy A ad C (N.1, 0) T (rn + 1) X) (cwV 0 hts (gx_L gX3_run_X2_drop) rfl rfl rfl (by decide +kernel) ⟨Nat.le_of_ble_eq_true rfl, Nat.le_of_ble_eq_true rfl⟩) rfl rfl rfl rfl hl.1 rfl (Nat.le_of_ble_eq_true rfl) dX3_run_38 ⟨Nat.zero_le _, Nat.zero_le _⟩ (fun H locs I => ?_)
    refine lv_aload_n hx hb dX3_run_41 rfl (lv_at hl 0 rfl) ?_
    refine lv_iload_n hx hb dX3_run_42 rfl (lv_at hl 1 rfl) ?_
    refine lv_iload_n hx hb dX3_run_43 rfl (lv_at hl 2 rfl) ?_
    refine lv_iload_n hx hb dX3_run_44 rfl (lv_at hl 3 rfl) ?_
    refine k_Vl (q0 := 0) (As := [.int (nI k), .int b, .int v]) (rest := []) (w1 := rgW ad cy C ((dlF C k (gdF C k) b v ((N.1, 0), dpT T)).1.1) ((dlF C k (gdF C k) b v ((N.1, 0), dpT T)).1.2) (rn + 1) X) (G := (dlF C k (gdF C k) b v ((N.1, 0), dpT T)).2) S I ((c_down l D cy A ad C (rn + 1) X k hk).2 (N.1, 0) (dpT T) b v hc0 (Nat.zero_le _)) (cwV 3 hts (gx_L gX3_run_X3_doLevel) rfl rfl rfl (by decide +kernel) ⟨by show 16 + 10 * k + 1 ≤ 80; omega, by show 8 + (6 + 11) + (700 + 400 * k) ≤ 3000; omega⟩) rfl rfl rfl rfl hl.1 rfl (Nat.le_of_ble_eq_true rfl) dX3_run_45 ⟨Nat.zero_le _, Nat.zero_le _⟩ (fun H locs I => ?_)
    have hh := (dlF_h (C := C) (k := k) (gdF_h C k) b v ((N.1, 0), dpT T) (Nat.zero_le _)).1
    refine lv_lstore (lv' := [(4, .long ((dlF C k (gdF C k) b v ((N.1, 0), dpT T)).2)), (0, .ref (ad 0)), (1, .int (nI k)), (2, .int b), (3, .int v)]) hx hb dX3_run_48 hl (by decide) rfl (fun ls hl => ?_)
    refine lv_aload_n hx hb dX3_run_50 rfl (lv_at hl 1 rfl) ?_
    refine k_get (T := TX3) (N := 4) (ci := 3) (k := 2) (q0 := 0) (v := .ref (ad 10)) S I it_X3_run_X3 rfl rfl (by decide) (List.mem_append_left _ (by decide +kernel)) rfl dX3_run_51 ?_
    refine k_Vi (q0 := 10) (As := []) (rest := []) (w1 := rgW ad cy C ((dlF C k (gdF C k) b v ((N.1, 0), dpT T)).1.1) ((dlF C k (gdF C k) b v ((N.1, 0), dpT T)).1.2) (rn + 1) X) (G := kdT (dlF C k (gdF C k) b v ((N.1, 0), dpT T)).1.2) S I (c_kind l D cy A ad C (dlF C k (gdF C k) b v ((N.1, 0), dpT T)).1.1 (dlF C k (gdF C k) b v ((N.1, 0), dpT T)).1.2 (rn + 1) X hh) (cwV 0 hts (gx_L gX3_run_X2_kind) rfl rfl rfl (by decide +kernel) ⟨Nat.le_of_ble_eq_true rfl, Nat.le_of_ble_eq_true rfl⟩) rfl rfl rfl rfl hl.1 rfl (Nat.le_of_ble_eq_true rfl) dX3_run_54 ⟨Nat.zero_le _, Nat.zero_le _⟩ (fun H locs I => ?_)
    refine k_SX (As := [.int (kdT (dlF C k (gdF C k) b v ((N.1, 0), dpT T)).1.2)]) (rest := []) (w1 := rgW ad cy C ((dlF C k (gdF C k) b v ((N.1, 0), dpT T)).1.1) ((dlF C k (gdF C k) b v ((N.1, 0), dpT T)).1.2) (rn + 1) X) S I (c_throwOut1 l hfl D cy A ad C (dlF C k (gdF C k) b v ((N.1, 0), dpT T)).1.1 (dlF C k (gdF C k) b v ((N.1, 0), dpT T)).1.2 (rn + 1) X (kdT (dlF C k (gdF C k) b v ((N.1, 0), dpT T)).1.2) hkd) (va_cwS 1 hts (gx_S gX3_run_X3_throwOut xw_good) rfl rfl rfl (by decide +kernel) ⟨Nat.le_of_ble_eq_true rfl, Nat.le_of_ble_eq_true rfl⟩) rfl hl.1 rfl (Nat.le_of_ble_eq_true rfl) dX3_run_57 ⟨Nat.le_of_ble_eq_true rfl, Nat.le_of_ble_eq_true rfl⟩ (fun H locs ce q9 I g1 g2 g3 => ?_)
    exact k_out hlk htab I g1 g2 g3 (Nat.le_refl _) (Nat.le_refl _)
  · exact absurd (c_4.symm.trans (isL_1 hk)) (by decide)
set_option maxHeartbeats 4000000 in
set_option maxRecDepth 100000 in
/-- run, out of which kind 2 comes -/
theorem c_rrunX2 (l : Launch) (hfl : l.stackTraces = false) (D : va_G) (cy : Nat → ClassId) (A : Nat → Prop) (ad : Nat → Nat) (C : rC) (N : rN) (T : rT) (rn : Int32) (X : va_W) (k : Nat) (hk : k < 6) (b v : Int32) (hkd : kdT (dlF C k (gdF C k) b v ((N.1, 0), dpT T)).1.2 = 2) : vx_Met l yX3_run wtX3_run ({ frames := 80, cells := 1, slots := 8, locals := 3000 }) (va_Pc [.ref (ad 0), .int (nI k), .int b, .int v] (KP D cy A (rgW ad cy C N T rn X))) (va_Qv (fun (_ : Unit) => False) (fun _ _ => True) A) (KX D cy A (rgW ad cy C ((dlF C k (gdF C k) b v ((N.1, 0), dpT T)).1.1) ((dlF C k (gdF C k) b v ((N.1, 0), dpT T)).1.2) (rn + 1) X) "java/lang/UnsupportedOperationException") 1 8 A := by
  refine k_openX (own := RX3) (maxL := 6) (ret := (some .long)) (by decide) rfl rfl (Nat.le_of_ble_eq_true rfl) (fun p e s m args below meth c S hr hlk htab I ls hl => ?_)
  obtain ⟨hx, hb, hml, hown, hts⟩ := id S
  have hl : lv_has ls 6 [(0, .ref (ad 0)), (1, .int (nI k)), (2, .int b), (3, .int v)] := hl
  have hc0 : (0 : Nat) + (3 + 2 * cgF k) < 99000 := cgF_le k hk
  refine lv_iload_n hx hb dX3_run_0 rfl (lv_at hl 1 rfl) ?_
  refine k_Si (As := [.int (nI k)]) (rest := []) (w1 := rgW ad cy C N T rn X) (G := isL (nI k)) S I (c_isLevel l D cy A ad C N T rn X (nI k)) (va_cwS 1 hts (gx_L gX3_run_X3_isLevel) rfl rfl rfl (by decide +kernel) ⟨Nat.le_of_ble_eq_true rfl, Nat.le_of_ble_eq_true rfl⟩) rfl hl.1 rfl (Nat.le_of_ble_eq_true rfl) dX3_run_1 ⟨Nat.zero_le _, Nat.zero_le _⟩ (fun H locs I => ?_)
  refine lv_if_ne (tgt := 17) hx hb dX3_run_4 (by decide) (fun c_4 => ?_) (fun c_4 => ?_)
  · refine lv_aload_n hx hb dX3_run_17 rfl (lv_at hl 0 rfl) ?_
    refine lv_dup hx hb dX3_run_18 rfl ?_
    refine k_get (T := TX3) (N := 4) (ci := 3) (k := 3) (q0 := 0) (v := .int rn) S I it_X3_run_X3 rfl rfl (by decide) (List.mem_append_left _ (by decide +kernel)) rfl dX3_run_19 ?_
    refine lv_iconst (v := 1) hx hb dX3_run_22 (by decide) ?_
    refine lv_iadd hx hb dX3_run_23 ?_
    refine k_put (T := TX3) (N := 4) (ci := 3) (k := 3) (q0 := 0) (v := .int (rn + 1)) (ty := .int) (fs := [.ref (ad 1), .ref (ad 8), .ref (ad 10), .int rn]) (w1 := rgW ad cy C N T (rn + 1) X) S I it_X3_run_X3 tyX3 tyX3_ok nmX3 rfl rfl (by decide) (List.mem_append_left _ (by decide +kernel)) rfl rfl rfl rfl (Nat.le_of_ble_eq_true rfl) rfl dX3_run_24 (fun H locs I => ?_)
    refine lv_aload_n hx hb dX3_run_27 rfl (lv_at hl 0 rfl) ?_
    refine k_get (T := TX3) (N := 4) (ci := 3) (k := 1) (q0 := 0) (v := .ref (ad 8)) S I it_X3_run_X3 rfl rfl (by decide) (List.mem_append_left _ (by decide +kernel)) rfl dX3_run_28 ?_
    refine k_Vv (q0 := 8) (As := []) (rest := []) (w1 := rgW ad cy C (N.1, 0) T (rn + 1) X) S I (c_beginAnew l D cy A ad C N T (rn + 1) X) (cwV 0 hts (gx_L gX3_run_X1_beginAnew) rfl rfl rfl (by decide +kernel) ⟨Nat.le_of_ble_eq_true rfl, Nat.le_of_ble_eq_true rfl⟩) rfl rfl rfl rfl hl.1 rfl (Nat.le_of_ble_eq_true rfl) dX3_run_31 ⟨Nat.zero_le _, Nat.zero_le _⟩ (fun H locs I => ?_)
    refine lv_aload_n hx hb dX3_run_34 rfl (lv_at hl 0 rfl) ?_
    refine k_get (T := TX3) (N := 4) (ci := 3) (k := 2) (q0 := 0) (v := .ref (ad 10)) S I it_X3_run_X3 rfl rfl (by decide) (List.mem_append_left _ (by decide +kernel)) rfl dX3_run_35 ?_
    refine k_Vv (q0 := 10) (As := []) (rest := []) (w1 := rgW ad cy C (N.1, 0) (dpT T) (rn + 1) X) S I (c_drop l D cy A ad C (N.1, 0) T (rn + 1) X) (cwV 0 hts (gx_L gX3_run_X2_drop) rfl rfl rfl (by decide +kernel) ⟨Nat.le_of_ble_eq_true rfl, Nat.le_of_ble_eq_true rfl⟩) rfl rfl rfl rfl hl.1 rfl (Nat.le_of_ble_eq_true rfl) dX3_run_38 ⟨Nat.zero_le _, Nat.zero_le _⟩ (fun H locs I => ?_)
    refine lv_aload_n hx hb dX3_run_41 rfl (lv_at hl 0 rfl) ?_
    refine lv_iload_n hx hb dX3_run_42 rfl (lv_at hl 1 rfl) ?_
    refine lv_iload_n hx hb dX3_run_43 rfl (lv_at hl 2 rfl) ?_
    refine lv_iload_n hx hb dX3_run_44 rfl (lv_at hl 3 rfl) ?_
    refine k_Vl (q0 := 0) (As := [.int (nI k), .int b, .int v]) (rest := []) (w1 := rgW ad cy C ((dlF C k (gdF C k) b v ((N.1, 0), dpT T)).1.1) ((dlF C k (gdF C k) b v ((N.1, 0), dpT T)).1.2) (rn + 1) X) (G := (dlF C k (gdF C k) b v ((N.1, 0), dpT T)).2) S I ((c_down l D cy A ad C (rn + 1) X k hk).2 (N.1, 0) (dpT T) b v hc0 (Nat.zero_le _)) (cwV 3 hts (gx_L gX3_run_X3_doLevel) rfl rfl rfl (by decide +kernel) ⟨by show 16 + 10 * k + 1 ≤ 80; omega, by show 8 + (6 + 11) + (700 + 400 * k) ≤ 3000; omega⟩) rfl rfl rfl rfl hl.1 rfl (Nat.le_of_ble_eq_true rfl) dX3_run_45 ⟨Nat.zero_le _, Nat.zero_le _⟩ (fun H locs I => ?_)
    have hh := (dlF_h (C := C) (k := k) (gdF_h C k) b v ((N.1, 0), dpT T) (Nat.zero_le _)).1
    refine lv_lstore (lv' := [(4, .long ((dlF C k (gdF C k) b v ((N.1, 0), dpT T)).2)), (0, .ref (ad 0)), (1, .int (nI k)), (2, .int b), (3, .int v)]) hx hb dX3_run_48 hl (by decide) rfl (fun ls hl => ?_)
    refine lv_aload_n hx hb dX3_run_50 rfl (lv_at hl 1 rfl) ?_
    refine k_get (T := TX3) (N := 4) (ci := 3) (k := 2) (q0 := 0) (v := .ref (ad 10)) S I it_X3_run_X3 rfl rfl (by decide) (List.mem_append_left _ (by decide +kernel)) rfl dX3_run_51 ?_
    refine k_Vi (q0 := 10) (As := []) (rest := []) (w1 := rgW ad cy C ((dlF C k (gdF C k) b v ((N.1, 0), dpT T)).1.1) ((dlF C k (gdF C k) b v ((N.1, 0), dpT T)).1.2) (rn + 1) X) (G := kdT (dlF C k (gdF C k) b v ((N.1, 0), dpT T)).1.2) S I (c_kind l D cy A ad C (dlF C k (gdF C k) b v ((N.1, 0), dpT T)).1.1 (dlF C k (gdF C k) b v ((N.1, 0), dpT T)).1.2 (rn + 1) X hh) (cwV 0 hts (gx_L gX3_run_X2_kind) rfl rfl rfl (by decide +kernel) ⟨Nat.le_of_ble_eq_true rfl, Nat.le_of_ble_eq_true rfl⟩) rfl rfl rfl rfl hl.1 rfl (Nat.le_of_ble_eq_true rfl) dX3_run_54 ⟨Nat.zero_le _, Nat.zero_le _⟩ (fun H locs I => ?_)
    refine k_SX (As := [.int (kdT (dlF C k (gdF C k) b v ((N.1, 0), dpT T)).1.2)]) (rest := []) (w1 := rgW ad cy C ((dlF C k (gdF C k) b v ((N.1, 0), dpT T)).1.1) ((dlF C k (gdF C k) b v ((N.1, 0), dpT T)).1.2) (rn + 1) X) S I (c_throwOut2 l hfl D cy A ad C (dlF C k (gdF C k) b v ((N.1, 0), dpT T)).1.1 (dlF C k (gdF C k) b v ((N.1, 0), dpT T)).1.2 (rn + 1) X (kdT (dlF C k (gdF C k) b v ((N.1, 0), dpT T)).1.2) hkd) (va_cwS 1 hts (gx_S gX3_run_X3_throwOut xw_good) rfl rfl rfl (by decide +kernel) ⟨Nat.le_of_ble_eq_true rfl, Nat.le_of_ble_eq_true rfl⟩) rfl hl.1 rfl (Nat.le_of_ble_eq_true rfl) dX3_run_57 ⟨Nat.le_of_ble_eq_true rfl, Nat.le_of_ble_eq_true rfl⟩ (fun H locs ce q9 I g1 g2 g3 => ?_)
    exact k_out hlk htab I g1 g2 g3 (Nat.le_refl _) (Nat.le_refl _)
  · exact absurd (c_4.symm.trans (isL_1 hk)) (by decide)
set_option maxHeartbeats 4000000 in
set_option maxRecDepth 100000 in
/-- run, out of which kind 3 comes -/
theorem c_rrunX3 (l : Launch) (hfl : l.stackTraces = false) (D : va_G) (cy : Nat → ClassId) (A : Nat → Prop) (ad : Nat → Nat) (C : rC) (N : rN) (T : rT) (rn : Int32) (X : va_W) (k : Nat) (hk : k < 6) (b v : Int32) (hkd : kdT (dlF C k (gdF C k) b v ((N.1, 0), dpT T)).1.2 = 3) : vx_Met l yX3_run wtX3_run ({ frames := 80, cells := 1, slots := 8, locals := 3000 }) (va_Pc [.ref (ad 0), .int (nI k), .int b, .int v] (KP D cy A (rgW ad cy C N T rn X))) (va_Qv (fun (_ : Unit) => False) (fun _ _ => True) A) (KX D cy A (rgW ad cy C ((dlF C k (gdF C k) b v ((N.1, 0), dpT T)).1.1) ((dlF C k (gdF C k) b v ((N.1, 0), dpT T)).1.2) (rn + 1) X) "java/lang/ArithmeticException") 1 8 A := by
  refine k_openX (own := RX3) (maxL := 6) (ret := (some .long)) (by decide) rfl rfl (Nat.le_of_ble_eq_true rfl) (fun p e s m args below meth c S hr hlk htab I ls hl => ?_)
  obtain ⟨hx, hb, hml, hown, hts⟩ := id S
  have hl : lv_has ls 6 [(0, .ref (ad 0)), (1, .int (nI k)), (2, .int b), (3, .int v)] := hl
  have hc0 : (0 : Nat) + (3 + 2 * cgF k) < 99000 := cgF_le k hk
  refine lv_iload_n hx hb dX3_run_0 rfl (lv_at hl 1 rfl) ?_
  refine k_Si (As := [.int (nI k)]) (rest := []) (w1 := rgW ad cy C N T rn X) (G := isL (nI k)) S I (c_isLevel l D cy A ad C N T rn X (nI k)) (va_cwS 1 hts (gx_L gX3_run_X3_isLevel) rfl rfl rfl (by decide +kernel) ⟨Nat.le_of_ble_eq_true rfl, Nat.le_of_ble_eq_true rfl⟩) rfl hl.1 rfl (Nat.le_of_ble_eq_true rfl) dX3_run_1 ⟨Nat.zero_le _, Nat.zero_le _⟩ (fun H locs I => ?_)
  refine lv_if_ne (tgt := 17) hx hb dX3_run_4 (by decide) (fun c_4 => ?_) (fun c_4 => ?_)
  · refine lv_aload_n hx hb dX3_run_17 rfl (lv_at hl 0 rfl) ?_
    refine lv_dup hx hb dX3_run_18 rfl ?_
    refine k_get (T := TX3) (N := 4) (ci := 3) (k := 3) (q0 := 0) (v := .int rn) S I it_X3_run_X3 rfl rfl (by decide) (List.mem_append_left _ (by decide +kernel)) rfl dX3_run_19 ?_
    refine lv_iconst (v := 1) hx hb dX3_run_22 (by decide) ?_
    refine lv_iadd hx hb dX3_run_23 ?_
    refine k_put (T := TX3) (N := 4) (ci := 3) (k := 3) (q0 := 0) (v := .int (rn + 1)) (ty := .int) (fs := [.ref (ad 1), .ref (ad 8), .ref (ad 10), .int rn]) (w1 := rgW ad cy C N T (rn + 1) X) S I it_X3_run_X3 tyX3 tyX3_ok nmX3 rfl rfl (by decide) (List.mem_append_left _ (by decide +kernel)) rfl rfl rfl rfl (Nat.le_of_ble_eq_true rfl) rfl dX3_run_24 (fun H locs I => ?_)
    refine lv_aload_n hx hb dX3_run_27 rfl (lv_at hl 0 rfl) ?_
    refine k_get (T := TX3) (N := 4) (ci := 3) (k := 1) (q0 := 0) (v := .ref (ad 8)) S I it_X3_run_X3 rfl rfl (by decide) (List.mem_append_left _ (by decide +kernel)) rfl dX3_run_28 ?_
    refine k_Vv (q0 := 8) (As := []) (rest := []) (w1 := rgW ad cy C (N.1, 0) T (rn + 1) X) S I (c_beginAnew l D cy A ad C N T (rn + 1) X) (cwV 0 hts (gx_L gX3_run_X1_beginAnew) rfl rfl rfl (by decide +kernel) ⟨Nat.le_of_ble_eq_true rfl, Nat.le_of_ble_eq_true rfl⟩) rfl rfl rfl rfl hl.1 rfl (Nat.le_of_ble_eq_true rfl) dX3_run_31 ⟨Nat.zero_le _, Nat.zero_le _⟩ (fun H locs I => ?_)
    refine lv_aload_n hx hb dX3_run_34 rfl (lv_at hl 0 rfl) ?_
    refine k_get (T := TX3) (N := 4) (ci := 3) (k := 2) (q0 := 0) (v := .ref (ad 10)) S I it_X3_run_X3 rfl rfl (by decide) (List.mem_append_left _ (by decide +kernel)) rfl dX3_run_35 ?_
    refine k_Vv (q0 := 10) (As := []) (rest := []) (w1 := rgW ad cy C (N.1, 0) (dpT T) (rn + 1) X) S I (c_drop l D cy A ad C (N.1, 0) T (rn + 1) X) (cwV 0 hts (gx_L gX3_run_X2_drop) rfl rfl rfl (by decide +kernel) ⟨Nat.le_of_ble_eq_true rfl, Nat.le_of_ble_eq_true rfl⟩) rfl rfl rfl rfl hl.1 rfl (Nat.le_of_ble_eq_true rfl) dX3_run_38 ⟨Nat.zero_le _, Nat.zero_le _⟩ (fun H locs I => ?_)
    refine lv_aload_n hx hb dX3_run_41 rfl (lv_at hl 0 rfl) ?_
    refine lv_iload_n hx hb dX3_run_42 rfl (lv_at hl 1 rfl) ?_
    refine lv_iload_n hx hb dX3_run_43 rfl (lv_at hl 2 rfl) ?_
    refine lv_iload_n hx hb dX3_run_44 rfl (lv_at hl 3 rfl) ?_
    refine k_Vl (q0 := 0) (As := [.int (nI k), .int b, .int v]) (rest := []) (w1 := rgW ad cy C ((dlF C k (gdF C k) b v ((N.1, 0), dpT T)).1.1) ((dlF C k (gdF C k) b v ((N.1, 0), dpT T)).1.2) (rn + 1) X) (G := (dlF C k (gdF C k) b v ((N.1, 0), dpT T)).2) S I ((c_down l D cy A ad C (rn + 1) X k hk).2 (N.1, 0) (dpT T) b v hc0 (Nat.zero_le _)) (cwV 3 hts (gx_L gX3_run_X3_doLevel) rfl rfl rfl (by decide +kernel) ⟨by show 16 + 10 * k + 1 ≤ 80; omega, by show 8 + (6 + 11) + (700 + 400 * k) ≤ 3000; omega⟩) rfl rfl rfl rfl hl.1 rfl (Nat.le_of_ble_eq_true rfl) dX3_run_45 ⟨Nat.zero_le _, Nat.zero_le _⟩ (fun H locs I => ?_)
    have hh := (dlF_h (C := C) (k := k) (gdF_h C k) b v ((N.1, 0), dpT T) (Nat.zero_le _)).1
    refine lv_lstore (lv' := [(4, .long ((dlF C k (gdF C k) b v ((N.1, 0), dpT T)).2)), (0, .ref (ad 0)), (1, .int (nI k)), (2, .int b), (3, .int v)]) hx hb dX3_run_48 hl (by decide) rfl (fun ls hl => ?_)
    refine lv_aload_n hx hb dX3_run_50 rfl (lv_at hl 1 rfl) ?_
    refine k_get (T := TX3) (N := 4) (ci := 3) (k := 2) (q0 := 0) (v := .ref (ad 10)) S I it_X3_run_X3 rfl rfl (by decide) (List.mem_append_left _ (by decide +kernel)) rfl dX3_run_51 ?_
    refine k_Vi (q0 := 10) (As := []) (rest := []) (w1 := rgW ad cy C ((dlF C k (gdF C k) b v ((N.1, 0), dpT T)).1.1) ((dlF C k (gdF C k) b v ((N.1, 0), dpT T)).1.2) (rn + 1) X) (G := kdT (dlF C k (gdF C k) b v ((N.1, 0), dpT T)).1.2) S I (c_kind l D cy A ad C (dlF C k (gdF C k) b v ((N.1, 0), dpT T)).1.1 (dlF C k (gdF C k) b v ((N.1, 0), dpT T)).1.2 (rn + 1) X hh) (cwV 0 hts (gx_L gX3_run_X2_kind) rfl rfl rfl (by decide +kernel) ⟨Nat.le_of_ble_eq_true rfl, Nat.le_of_ble_eq_true rfl⟩) rfl rfl rfl rfl hl.1 rfl (Nat.le_of_ble_eq_true rfl) dX3_run_54 ⟨Nat.zero_le _, Nat.zero_le _⟩ (fun H locs I => ?_)
    refine k_SX (As := [.int (kdT (dlF C k (gdF C k) b v ((N.1, 0), dpT T)).1.2)]) (rest := []) (w1 := rgW ad cy C ((dlF C k (gdF C k) b v ((N.1, 0), dpT T)).1.1) ((dlF C k (gdF C k) b v ((N.1, 0), dpT T)).1.2) (rn + 1) X) S I (c_throwOut3 l hfl D cy A ad C (dlF C k (gdF C k) b v ((N.1, 0), dpT T)).1.1 (dlF C k (gdF C k) b v ((N.1, 0), dpT T)).1.2 (rn + 1) X (kdT (dlF C k (gdF C k) b v ((N.1, 0), dpT T)).1.2) hkd) (va_cwS 1 hts (gx_S gX3_run_X3_throwOut xw_good) rfl rfl rfl (by decide +kernel) ⟨Nat.le_of_ble_eq_true rfl, Nat.le_of_ble_eq_true rfl⟩) rfl hl.1 rfl (Nat.le_of_ble_eq_true rfl) dX3_run_57 ⟨Nat.le_of_ble_eq_true rfl, Nat.le_of_ble_eq_true rfl⟩ (fun H locs ce q9 I g1 g2 g3 => ?_)
    exact k_out hlk htab I g1 g2 g3 (Nat.le_refl _) (Nat.le_refl _)
  · exact absurd (c_4.symm.trans (isL_1 hk)) (by decide)
set_option maxHeartbeats 4000000 in
set_option maxRecDepth 100000 in
/-- run, out of which kind 4 comes -/
theorem c_rrunX4 (l : Launch) (hfl : l.stackTraces = false) (D : va_G) (cy : Nat → ClassId) (A : Nat → Prop) (ad : Nat → Nat) (C : rC) (N : rN) (T : rT) (rn : Int32) (X : va_W) (k : Nat) (hk : k < 6) (b v : Int32) (hkd : kdT (dlF C k (gdF C k) b v ((N.1, 0), dpT T)).1.2 = 4) : vx_Met l yX3_run wtX3_run ({ frames := 80, cells := 1, slots := 8, locals := 3000 }) (va_Pc [.ref (ad 0), .int (nI k), .int b, .int v] (KP D cy A (rgW ad cy C N T rn X))) (va_Qv (fun (_ : Unit) => False) (fun _ _ => True) A) (KX D cy A (rgW ad cy C ((dlF C k (gdF C k) b v ((N.1, 0), dpT T)).1.1) ((dlF C k (gdF C k) b v ((N.1, 0), dpT T)).1.2) (rn + 1) X) Bundle.nN) 1 8 A := by
  refine k_openX (own := RX3) (maxL := 6) (ret := (some .long)) (by decide) rfl rfl (Nat.le_of_ble_eq_true rfl) (fun p e s m args below meth c S hr hlk htab I ls hl => ?_)
  obtain ⟨hx, hb, hml, hown, hts⟩ := id S
  have hl : lv_has ls 6 [(0, .ref (ad 0)), (1, .int (nI k)), (2, .int b), (3, .int v)] := hl
  have hc0 : (0 : Nat) + (3 + 2 * cgF k) < 99000 := cgF_le k hk
  refine lv_iload_n hx hb dX3_run_0 rfl (lv_at hl 1 rfl) ?_
  refine k_Si (As := [.int (nI k)]) (rest := []) (w1 := rgW ad cy C N T rn X) (G := isL (nI k)) S I (c_isLevel l D cy A ad C N T rn X (nI k)) (va_cwS 1 hts (gx_L gX3_run_X3_isLevel) rfl rfl rfl (by decide +kernel) ⟨Nat.le_of_ble_eq_true rfl, Nat.le_of_ble_eq_true rfl⟩) rfl hl.1 rfl (Nat.le_of_ble_eq_true rfl) dX3_run_1 ⟨Nat.zero_le _, Nat.zero_le _⟩ (fun H locs I => ?_)
  refine lv_if_ne (tgt := 17) hx hb dX3_run_4 (by decide) (fun c_4 => ?_) (fun c_4 => ?_)
  · refine lv_aload_n hx hb dX3_run_17 rfl (lv_at hl 0 rfl) ?_
    refine lv_dup hx hb dX3_run_18 rfl ?_
    refine k_get (T := TX3) (N := 4) (ci := 3) (k := 3) (q0 := 0) (v := .int rn) S I it_X3_run_X3 rfl rfl (by decide) (List.mem_append_left _ (by decide +kernel)) rfl dX3_run_19 ?_
    refine lv_iconst (v := 1) hx hb dX3_run_22 (by decide) ?_
    refine lv_iadd hx hb dX3_run_23 ?_
    refine k_put (T := TX3) (N := 4) (ci := 3) (k := 3) (q0 := 0) (v := .int (rn + 1)) (ty := .int) (fs := [.ref (ad 1), .ref (ad 8), .ref (ad 10), .int rn]) (w1 := rgW ad cy C N T (rn + 1) X) S I it_X3_run_X3 tyX3 tyX3_ok nmX3 rfl rfl (by decide) (List.mem_append_left _ (by decide +kernel)) rfl rfl rfl rfl (Nat.le_of_ble_eq_true rfl) rfl dX3_run_24 (fun H locs I => ?_)
    refine lv_aload_n hx hb dX3_run_27 rfl (lv_at hl 0 rfl) ?_
    refine k_get (T := TX3) (N := 4) (ci := 3) (k := 1) (q0 := 0) (v := .ref (ad 8)) S I it_X3_run_X3 rfl rfl (by decide) (List.mem_append_left _ (by decide +kernel)) rfl dX3_run_28 ?_
    refine k_Vv (q0 := 8) (As := []) (rest := []) (w1 := rgW ad cy C (N.1, 0) T (rn + 1) X) S I (c_beginAnew l D cy A ad C N T (rn + 1) X) (cwV 0 hts (gx_L gX3_run_X1_beginAnew) rfl rfl rfl (by decide +kernel) ⟨Nat.le_of_ble_eq_true rfl, Nat.le_of_ble_eq_true rfl⟩) rfl rfl rfl rfl hl.1 rfl (Nat.le_of_ble_eq_true rfl) dX3_run_31 ⟨Nat.zero_le _, Nat.zero_le _⟩ (fun H locs I => ?_)
    refine lv_aload_n hx hb dX3_run_34 rfl (lv_at hl 0 rfl) ?_
    refine k_get (T := TX3) (N := 4) (ci := 3) (k := 2) (q0 := 0) (v := .ref (ad 10)) S I it_X3_run_X3 rfl rfl (by decide) (List.mem_append_left _ (by decide +kernel)) rfl dX3_run_35 ?_
    refine k_Vv (q0 := 10) (As := []) (rest := []) (w1 := rgW ad cy C (N.1, 0) (dpT T) (rn + 1) X) S I (c_drop l D cy A ad C (N.1, 0) T (rn + 1) X) (cwV 0 hts (gx_L gX3_run_X2_drop) rfl rfl rfl (by decide +kernel) ⟨Nat.le_of_ble_eq_true rfl, Nat.le_of_ble_eq_true rfl⟩) rfl rfl rfl rfl hl.1 rfl (Nat.le_of_ble_eq_true rfl) dX3_run_38 ⟨Nat.zero_le _, Nat.zero_le _⟩ (fun H locs I => ?_)
    refine lv_aload_n hx hb dX3_run_41 rfl (lv_at hl 0 rfl) ?_
    refine lv_iload_n hx hb dX3_run_42 rfl (lv_at hl 1 rfl) ?_
    refine lv_iload_n hx hb dX3_run_43 rfl (lv_at hl 2 rfl) ?_
    refine lv_iload_n hx hb dX3_run_44 rfl (lv_at hl 3 rfl) ?_
    refine k_Vl (q0 := 0) (As := [.int (nI k), .int b, .int v]) (rest := []) (w1 := rgW ad cy C ((dlF C k (gdF C k) b v ((N.1, 0), dpT T)).1.1) ((dlF C k (gdF C k) b v ((N.1, 0), dpT T)).1.2) (rn + 1) X) (G := (dlF C k (gdF C k) b v ((N.1, 0), dpT T)).2) S I ((c_down l D cy A ad C (rn + 1) X k hk).2 (N.1, 0) (dpT T) b v hc0 (Nat.zero_le _)) (cwV 3 hts (gx_L gX3_run_X3_doLevel) rfl rfl rfl (by decide +kernel) ⟨by show 16 + 10 * k + 1 ≤ 80; omega, by show 8 + (6 + 11) + (700 + 400 * k) ≤ 3000; omega⟩) rfl rfl rfl rfl hl.1 rfl (Nat.le_of_ble_eq_true rfl) dX3_run_45 ⟨Nat.zero_le _, Nat.zero_le _⟩ (fun H locs I => ?_)
    have hh := (dlF_h (C := C) (k := k) (gdF_h C k) b v ((N.1, 0), dpT T) (Nat.zero_le _)).1
    refine lv_lstore (lv' := [(4, .long ((dlF C k (gdF C k) b v ((N.1, 0), dpT T)).2)), (0, .ref (ad 0)), (1, .int (nI k)), (2, .int b), (3, .int v)]) hx hb dX3_run_48 hl (by decide) rfl (fun ls hl => ?_)
    refine lv_aload_n hx hb dX3_run_50 rfl (lv_at hl 1 rfl) ?_
    refine k_get (T := TX3) (N := 4) (ci := 3) (k := 2) (q0 := 0) (v := .ref (ad 10)) S I it_X3_run_X3 rfl rfl (by decide) (List.mem_append_left _ (by decide +kernel)) rfl dX3_run_51 ?_
    refine k_Vi (q0 := 10) (As := []) (rest := []) (w1 := rgW ad cy C ((dlF C k (gdF C k) b v ((N.1, 0), dpT T)).1.1) ((dlF C k (gdF C k) b v ((N.1, 0), dpT T)).1.2) (rn + 1) X) (G := kdT (dlF C k (gdF C k) b v ((N.1, 0), dpT T)).1.2) S I (c_kind l D cy A ad C (dlF C k (gdF C k) b v ((N.1, 0), dpT T)).1.1 (dlF C k (gdF C k) b v ((N.1, 0), dpT T)).1.2 (rn + 1) X hh) (cwV 0 hts (gx_L gX3_run_X2_kind) rfl rfl rfl (by decide +kernel) ⟨Nat.le_of_ble_eq_true rfl, Nat.le_of_ble_eq_true rfl⟩) rfl rfl rfl rfl hl.1 rfl (Nat.le_of_ble_eq_true rfl) dX3_run_54 ⟨Nat.zero_le _, Nat.zero_le _⟩ (fun H locs I => ?_)
    refine k_SX (As := [.int (kdT (dlF C k (gdF C k) b v ((N.1, 0), dpT T)).1.2)]) (rest := []) (w1 := rgW ad cy C ((dlF C k (gdF C k) b v ((N.1, 0), dpT T)).1.1) ((dlF C k (gdF C k) b v ((N.1, 0), dpT T)).1.2) (rn + 1) X) S I (c_throwOut4 l hfl D cy A ad C (dlF C k (gdF C k) b v ((N.1, 0), dpT T)).1.1 (dlF C k (gdF C k) b v ((N.1, 0), dpT T)).1.2 (rn + 1) X (kdT (dlF C k (gdF C k) b v ((N.1, 0), dpT T)).1.2) hkd) (va_cwS 1 hts (gx_S gX3_run_X3_throwOut xw_good) rfl rfl rfl (by decide +kernel) ⟨Nat.le_of_ble_eq_true rfl, Nat.le_of_ble_eq_true rfl⟩) rfl hl.1 rfl (Nat.le_of_ble_eq_true rfl) dX3_run_57 ⟨Nat.le_of_ble_eq_true rfl, Nat.le_of_ble_eq_true rfl⟩ (fun H locs ce q9 I g1 g2 g3 => ?_)
    exact k_out hlk htab I g1 g2 g3 (Nat.le_refl _) (Nat.le_refl _)
  · exact absurd (c_4.symm.trans (isL_1 hk)) (by decide)
set_option maxHeartbeats 4000000 in
set_option maxRecDepth 100000 in
/-- run, out of which kind 5 comes -/
theorem c_rrunX5 (l : Launch) (hfl : l.stackTraces = false) (D : va_G) (cy : Nat → ClassId) (A : Nat → Prop) (ad : Nat → Nat) (C : rC) (N : rN) (T : rT) (rn : Int32) (X : va_W) (k : Nat) (hk : k < 6) (b v : Int32) (hkd : kdT (dlF C k (gdF C k) b v ((N.1, 0), dpT T)).1.2 = 5) : vx_Met l yX3_run wtX3_run ({ frames := 80, cells := 1, slots := 8, locals := 3000 }) (va_Pc [.ref (ad 0), .int (nI k), .int b, .int v] (KP D cy A (rgW ad cy C N T rn X))) (va_Qv (fun (_ : Unit) => False) (fun _ _ => True) A) (KX D cy A (rgW ad cy C ((dlF C k (gdF C k) b v ((N.1, 0), dpT T)).1.1) ((dlF C k (gdF C k) b v ((N.1, 0), dpT T)).1.2) (rn + 1) X) "java/lang/ArrayIndexOutOfBoundsException") 1 8 A := by
  refine k_openX (own := RX3) (maxL := 6) (ret := (some .long)) (by decide) rfl rfl (Nat.le_of_ble_eq_true rfl) (fun p e s m args below meth c S hr hlk htab I ls hl => ?_)
  obtain ⟨hx, hb, hml, hown, hts⟩ := id S
  have hl : lv_has ls 6 [(0, .ref (ad 0)), (1, .int (nI k)), (2, .int b), (3, .int v)] := hl
  have hc0 : (0 : Nat) + (3 + 2 * cgF k) < 99000 := cgF_le k hk
  refine lv_iload_n hx hb dX3_run_0 rfl (lv_at hl 1 rfl) ?_
  refine k_Si (As := [.int (nI k)]) (rest := []) (w1 := rgW ad cy C N T rn X) (G := isL (nI k)) S I (c_isLevel l D cy A ad C N T rn X (nI k)) (va_cwS 1 hts (gx_L gX3_run_X3_isLevel) rfl rfl rfl (by decide +kernel) ⟨Nat.le_of_ble_eq_true rfl, Nat.le_of_ble_eq_true rfl⟩) rfl hl.1 rfl (Nat.le_of_ble_eq_true rfl) dX3_run_1 ⟨Nat.zero_le _, Nat.zero_le _⟩ (fun H locs I => ?_)
  refine lv_if_ne (tgt := 17) hx hb dX3_run_4 (by decide) (fun c_4 => ?_) (fun c_4 => ?_)
  · refine lv_aload_n hx hb dX3_run_17 rfl (lv_at hl 0 rfl) ?_
    refine lv_dup hx hb dX3_run_18 rfl ?_
    refine k_get (T := TX3) (N := 4) (ci := 3) (k := 3) (q0 := 0) (v := .int rn) S I it_X3_run_X3 rfl rfl (by decide) (List.mem_append_left _ (by decide +kernel)) rfl dX3_run_19 ?_
    refine lv_iconst (v := 1) hx hb dX3_run_22 (by decide) ?_
    refine lv_iadd hx hb dX3_run_23 ?_
    refine k_put (T := TX3) (N := 4) (ci := 3) (k := 3) (q0 := 0) (v := .int (rn + 1)) (ty := .int) (fs := [.ref (ad 1), .ref (ad 8), .ref (ad 10), .int rn]) (w1 := rgW ad cy C N T (rn + 1) X) S I it_X3_run_X3 tyX3 tyX3_ok nmX3 rfl rfl (by decide) (List.mem_append_left _ (by decide +kernel)) rfl rfl rfl rfl (Nat.le_of_ble_eq_true rfl) rfl dX3_run_24 (fun H locs I => ?_)
    refine lv_aload_n hx hb dX3_run_27 rfl (lv_at hl 0 rfl) ?_
    refine k_get (T := TX3) (N := 4) (ci := 3) (k := 1) (q0 := 0) (v := .ref (ad 8)) S I it_X3_run_X3 rfl rfl (by decide) (List.mem_append_left _ (by decide +kernel)) rfl dX3_run_28 ?_
    refine k_Vv (q0 := 8) (As := []) (rest := []) (w1 := rgW ad cy C (N.1, 0) T (rn + 1) X) S I (c_beginAnew l D cy A ad C N T (rn + 1) X) (cwV 0 hts (gx_L gX3_run_X1_beginAnew) rfl rfl rfl (by decide +kernel) ⟨Nat.le_of_ble_eq_true rfl, Nat.le_of_ble_eq_true rfl⟩) rfl rfl rfl rfl hl.1 rfl (Nat.le_of_ble_eq_true rfl) dX3_run_31 ⟨Nat.zero_le _, Nat.zero_le _⟩ (fun H locs I => ?_)
    refine lv_aload_n hx hb dX3_run_34 rfl (lv_at hl 0 rfl) ?_
    refine k_get (T := TX3) (N := 4) (ci := 3) (k := 2) (q0 := 0) (v := .ref (ad 10)) S I it_X3_run_X3 rfl rfl (by decide) (List.mem_append_left _ (by decide +kernel)) rfl dX3_run_35 ?_
    refine k_Vv (q0 := 10) (As := []) (rest := []) (w1 := rgW ad cy C (N.1, 0) (dpT T) (rn + 1) X) S I (c_drop l D cy A ad C (N.1, 0) T (rn + 1) X) (cwV 0 hts (gx_L gX3_run_X2_drop) rfl rfl rfl (by decide +kernel) ⟨Nat.le_of_ble_eq_true rfl, Nat.le_of_ble_eq_true rfl⟩) rfl rfl rfl rfl hl.1 rfl (Nat.le_of_ble_eq_true rfl) dX3_run_38 ⟨Nat.zero_le _, Nat.zero_le _⟩ (fun H locs I => ?_)
    refine lv_aload_n hx hb dX3_run_41 rfl (lv_at hl 0 rfl) ?_
    refine lv_iload_n hx hb dX3_run_42 rfl (lv_at hl 1 rfl) ?_
    refine lv_iload_n hx hb dX3_run_43 rfl (lv_at hl 2 rfl) ?_
    refine lv_iload_n hx hb dX3_run_44 rfl (lv_at hl 3 rfl) ?_
    refine k_Vl (q0 := 0) (As := [.int (nI k), .int b, .int v]) (rest := []) (w1 := rgW ad cy C ((dlF C k (gdF C k) b v ((N.1, 0), dpT T)).1.1) ((dlF C k (gdF C k) b v ((N.1, 0), dpT T)).1.2) (rn + 1) X) (G := (dlF C k (gdF C k) b v ((N.1, 0), dpT T)).2) S I ((c_down l D cy A ad C (rn + 1) X k hk).2 (N.1, 0) (dpT T) b v hc0 (Nat.zero_le _)) (cwV 3 hts (gx_L gX3_run_X3_doLevel) rfl rfl rfl (by decide +kernel) ⟨by show 16 + 10 * k + 1 ≤ 80; omega, by show 8 + (6 + 11) + (700 + 400 * k) ≤ 3000; omega⟩) rfl rfl rfl rfl hl.1 rfl (Nat.le_of_ble_eq_true rfl) dX3_run_45 ⟨Nat.zero_le _, Nat.zero_le _⟩ (fun H locs I => ?_)
    have hh := (dlF_h (C := C) (k := k) (gdF_h C k) b v ((N.1, 0), dpT T) (Nat.zero_le _)).1
    refine lv_lstore (lv' := [(4, .long ((dlF C k (gdF C k) b v ((N.1, 0), dpT T)).2)), (0, .ref (ad 0)), (1, .int (nI k)), (2, .int b), (3, .int v)]) hx hb dX3_run_48 hl (by decide) rfl (fun ls hl => ?_)
    refine lv_aload_n hx hb dX3_run_50 rfl (lv_at hl 1 rfl) ?_
    refine k_get (T := TX3) (N := 4) (ci := 3) (k := 2) (q0 := 0) (v := .ref (ad 10)) S I it_X3_run_X3 rfl rfl (by decide) (List.mem_append_left _ (by decide +kernel)) rfl dX3_run_51 ?_
    refine k_Vi (q0 := 10) (As := []) (rest := []) (w1 := rgW ad cy C ((dlF C k (gdF C k) b v ((N.1, 0), dpT T)).1.1) ((dlF C k (gdF C k) b v ((N.1, 0), dpT T)).1.2) (rn + 1) X) (G := kdT (dlF C k (gdF C k) b v ((N.1, 0), dpT T)).1.2) S I (c_kind l D cy A ad C (dlF C k (gdF C k) b v ((N.1, 0), dpT T)).1.1 (dlF C k (gdF C k) b v ((N.1, 0), dpT T)).1.2 (rn + 1) X hh) (cwV 0 hts (gx_L gX3_run_X2_kind) rfl rfl rfl (by decide +kernel) ⟨Nat.le_of_ble_eq_true rfl, Nat.le_of_ble_eq_true rfl⟩) rfl rfl rfl rfl hl.1 rfl (Nat.le_of_ble_eq_true rfl) dX3_run_54 ⟨Nat.zero_le _, Nat.zero_le _⟩ (fun H locs I => ?_)
    refine k_SX (As := [.int (kdT (dlF C k (gdF C k) b v ((N.1, 0), dpT T)).1.2)]) (rest := []) (w1 := rgW ad cy C ((dlF C k (gdF C k) b v ((N.1, 0), dpT T)).1.1) ((dlF C k (gdF C k) b v ((N.1, 0), dpT T)).1.2) (rn + 1) X) S I (c_throwOut5 l hfl D cy A ad C (dlF C k (gdF C k) b v ((N.1, 0), dpT T)).1.1 (dlF C k (gdF C k) b v ((N.1, 0), dpT T)).1.2 (rn + 1) X (kdT (dlF C k (gdF C k) b v ((N.1, 0), dpT T)).1.2) hkd) (va_cwS 1 hts (gx_S gX3_run_X3_throwOut xw_good) rfl rfl rfl (by decide +kernel) ⟨Nat.le_of_ble_eq_true rfl, Nat.le_of_ble_eq_true rfl⟩) rfl hl.1 rfl (Nat.le_of_ble_eq_true rfl) dX3_run_57 ⟨Nat.le_of_ble_eq_true rfl, Nat.le_of_ble_eq_true rfl⟩ (fun H locs ce q9 I g1 g2 g3 => ?_)
    exact k_out hlk htab I g1 g2 g3 (Nat.le_refl _) (Nat.le_refl _)
  · exact absurd (c_4.symm.trans (isL_1 hk)) (by decide)
end
section
/-! CONSTRUCTORS: rows that make cells, in the words of part 05 -/
theorem k_openI {l : Launch} {y : MethodName} {ws ws' : List Cond} {rm : Room} {Qc : Array Value → State → Outcome → State → Prop} {mc ms : Nat} {A : Nat → Prop} {cc : ByteArray} {maxL : Nat} {ret : Option FieldType} {D : va_G} {cy : Nat → ClassId} {ww : va_W} {av : List Value} {own : String}
    (hy : plainName y.cls = true) (hw : ws = Cond.code y cc maxL ret :: ws') (hown : y.cls = own) (hn : y.name = "<init>") (hsz : (lg_sl av).length ≤ maxL)
    (body : ∀ p e s m args below meth c, CallFix p m c cc maxL s args ws own → meth.sig.returnType = ret → meth.locks = false → meth.name = "<init>" → KI D cy A ww s s.heap [] → ∀ ls, lv_has ls maxL (lv_args 0 av) → W p l e rm s m args below meth c s.heap [] 0 0 (MQ below Qc args s mc ms A) (F0 m 0 ls [])) : Met l y ws rm (va_Pc av (KP D cy A ww)) Qc mc ms A := by
  refine Met.ofW (cc := cc) (maxL := maxL) (ret := ret) hy hw ?_
  intro p e s m args below meth c s₁ B hml hv
  obtain ⟨rfl, hA, hP, hK, hD, hE⟩ := hv
  rw [lg_entry_eq]
  exact body p e s m _ below meth c ⟨B.exec, B.bytes, hml, hown ▸ findClass_of_methodNamed B.named, atoms_spec (ws := ws) B.pre⟩ B.returns B.notSynchronized ((name_of_methodNamed B.named B.method).1.trans hn) ⟨hK, hE, hA, hP, hD, va_S.rf⟩ _ (lv_entry av hsz)
theorem k_app {α : Type} {l z : List α} {q : Nat} {x : α} (h : l[q]? = some x) : (l ++ z)[q]? = some x := by
  rw [List.getElem?_append_left (List.getElem?_eq_some_iff.mp h).1]
  exact h
section KN
variable {p : Program} {l : Launch} {e : Env} {R : Room} {s : State} {m : MethodId} {args : Array Value} {below : List Frame} {meth : Method} {c : Code} {H : Heap} {locs : List Loc} {cells slots : Nat} {Q : State → Prop}
variable {cc : ByteArray} {nL : Nat} {Ts : List Cond} {own : String} {D : va_G} {cy : Nat → ClassId} {A : Nat → Prop} {ww w1 : va_W} {pc : Nat} {ls : Array Slot} {rest st0 : List Value}
theorem k_vretS {U : Type} {wf : U → va_W} {post : U → Prop} (u : U) (S : CallFix p m c cc nL s args Ts own) (hr : meth.sig.returnType = none) (hlk : meth.locks = false) (I : KI D cy A ww s H locs) (hp : post u) (hw : ww = wf u) (d : decode cc pc = .ok (.return_, 1)) :
    W p l e R s m args below meth c H locs cells slots (MQ below (va_Qv post (fun u => KB D cy A (wf u)) A) args s cells slots A) (F0 m pc ls []) := by
  obtain ⟨h1, h2, h3, h4, h5, h6⟩ := I
  subst hw
  exact W.vret S.1 S.2.1 hr (fun t ht hW => ⟨⟨u, rfl, hp, by rw [ht]; exact h4, va_K.moved hW.alike h1, h5⟩, h6.F ht⟩) h6.2.2 d hlk
theorem k_obj {a : Addr} {index : Nat} (S : CallFix p m c cc nL s args Ts own) (hl : ls.size = nL) (h1 : Cond.methodLink own index objectInit ∈ Ts) (h2 : Cond.instanceMethod objectInit ∈ Ts) (h3 : Cond.code objectInit ⟨#[0xb1]⟩ 1 none ∈ Ts) (d : decode cc pc = .ok (.invokespecial index, 3)) (hf : 1 ≤ R.frames) (hlo : (rest.map fun v => v.category).sum + 12 ≤ R.locals)
    (kk : W p l e R s m args below meth c H locs cells slots Q (F0 m (pc + 3) ls rest)) : W p l e R s m args below meth c H locs cells slots Q (F0 m pc ls (.ref a :: rest)) :=
  W.objInit S.1 S.2.1 S.2.2.2.1 (S.2.2.2.2 _ h1) (S.2.2.2.2 _ h2) (S.2.2.2.2 _ h3) rfl (hl.trans S.2.2.1.symm) rfl d hf (by show 2 * 0 + _ + 12 ≤ _; omega) kk
theorem k_new {C : String} {T : u_T} {N ci index : Nat} {fs : List Value} {wf : Nat → va_W} (S : CallFix p m c cc nL s args Ts own) (I : KI D cy A ww s H locs) (hin : ∀ w ∈ u_ws C T N, w ∈ Ts) (ty : Nat → FieldType) (hty : ∀ k, k < N → parseFieldDescriptor (T k).2.2.1 = some (ty k)) (hcl : Cond.classLink own index C ∈ Ts) (hinst : Cond.instantiable C N ∈ Ts) (hini : Cond.initialized C ∈ Ts)
    (hc : kCl[ci]? = some (C, T, N)) (hfs : ∀ j, j < N → defaultValue (ty j) = vp_V fs j) (hcells : cells + 1 ≤ R.cells) (hslots : slots + N ≤ R.slots) (hw : ∀ q, ww ++ [(q, .inr (ci, fs))] = wf q) (d : decode cc pc = .ok (.new index, 3))
    (kk : ∀ (q : Nat) (H1 : Heap), KI D cy A (wf q) s H1 locs → W p l e R s m args below meth c H1 locs (cells + 1) (slots + N) Q (F0 m (pc + 3) ls (.ref q :: rest))) : W p l e R s m args below meth c H locs cells slots Q (F0 m pc ls rest) := by
  obtain ⟨h1, h2, h3, h4, h5, h6⟩ := I
  refine va_new S.1 S.2.1 S.2.2.2.2 hin ty hty S.2.2.2.1 (S.2.2.2.2 _ hcl) (S.2.2.2.2 _ hinst) (S.2.2.2.2 _ hini) h1 h4 h5 h6 h3 hc hfs hcells hslots d (fun q H1 hP hD hS => kk q H1 ⟨h1, h2, h3, ?_, ?_, hS⟩)
  · rw [← hw]; exact hP
  · rw [← hw]; exact hD
theorem k_newa {n : Int32} {N' t0 : Nat} {cA : ClassId} {wf : Nat → va_W} (S : CallFix p m c cc nL s args Ts own) (I : KI D cy A ww s H locs) (harr : Cond.arrayClass .int ∈ Ts) (ht : (kTy cy)[t0]? = some (cA, .int)) (hn : ¬ n < 0) (hN : n.toNatClampNeg = N') (hb : N' * 4 ≤ 536870912) (hcells : cells + 1 ≤ R.cells) (hslots : slots + N' ≤ R.slots)
    (hw : ∀ q, ww ++ [(q, .inl (cA, N', .inl (fun _ => 0)))] = wf q) (d : decode cc pc = .ok (.newarray .int, 2))
    (kk : ∀ (q : Nat) (H1 : Heap), KI D cy A (wf q) s H1 locs → W p l e R s m args below meth c H1 locs (cells + 1) (slots + N') Q (F0 m (pc + 2) ls (.ref q :: rest))) : W p l e R s m args below meth c H locs cells slots Q (F0 m pc ls (.int n :: rest)) := by
  obtain ⟨h1, h2, h3, h4, h5, h6⟩ := I
  refine va_newa (atype := .int) (ty := .int) (a0 := (N', .inl (fun _ => 0))) S.1 S.2.1 (S.2.2.2.2 _ harr) rfl h1 h4 h5 h6 h3 (fun _ => rfl) hn hN hb hcells hslots d (fun q cB H1 hK hP hD hS => kk q H1 ⟨h1, h2, h3, ?_, ?_, hS⟩)
  · have e1 : s.vm.findClass ("[" ++ FieldType.int.toString) = some cB := (hK.2 5 (cB, .int) rfl).2
    have e2 : s.vm.findClass ("[" ++ FieldType.int.toString) = some cA := (h1.2 t0 _ ht).2
    cases Option.some.inj (e1.symm.trans e2)
    rw [← hw]; exact hP
  · have e1 : s.vm.findClass ("[" ++ FieldType.int.toString) = some cB := (hK.2 5 (cB, .int) rfl).2
    have e2 : s.vm.findClass ("[" ++ FieldType.int.toString) = some cA := (h1.2 t0 _ ht).2
    cases Option.some.inj (e1.symm.trans e2)
    rw [← hw]; exact hD
theorem k_newq {C : String} {index : Nat} {n : Int32} {N' t0 : Nat} {cA : ClassId} {wf : Nat → va_W} (S : CallFix p m c cc nL s args Ts own) (I : KI D cy A ww s H locs) (hcl : Cond.classLink own index C ∈ Ts) (hover : va_AO C s) (ht : (kTy cy)[t0]? = some (cA, .object C)) (hn : ¬ n < 0) (hN : n.toNatClampNeg = N') (hb : N' * 4 ≤ 536870912) (hcells : cells + 1 ≤ R.cells) (hslots : slots + N' ≤ R.slots)
    (hw : ∀ q, ww ++ [(q, .inl (cA, N', .inr (.inr (.inr (.inr (fun _ => none))))))] = wf q) (d : decode cc pc = .ok (.anewarray index, 3))
    (kk : ∀ (q : Nat) (H1 : Heap), KI D cy A (wf q) s H1 locs → W p l e R s m args below meth c H1 locs (cells + 1) (slots + N') Q (F0 m (pc + 3) ls (.ref q :: rest))) : W p l e R s m args below meth c H locs cells slots Q (F0 m pc ls (.int n :: rest)) := by
  obtain ⟨h1, h2, h3, h4, h5, h6⟩ := I
  refine va_newq S.1 S.2.1 S.2.2.2.1 (S.2.2.2.2 _ hcl) hover h1 h4 h5 h6 h3 hn hN hb hcells hslots d (fun q cB H1 hK hP hD hS => kk q H1 ⟨h1, h2, h3, ?_, ?_, hS⟩)
  · obtain ⟨-, -, -, -, -, e1⟩ := (hK.2 5 (cB, .object C) rfl).2
    obtain ⟨-, -, -, -, -, e2⟩ := (h1.2 t0 _ ht).2
    cases Option.some.inj (e1.symm.trans e2)
    rw [← hw]; exact hP
  · obtain ⟨-, -, -, -, -, e1⟩ := (hK.2 5 (cB, .object C) rfl).2
    obtain ⟨-, -, -, -, -, e2⟩ := (h1.2 t0 _ ht).2
    cases Option.some.inj (e1.symm.trans e2)
    rw [← hw]; exact hD
theorem k_aast {cA : ClassId} {r : vw_C} {n v j a : Nat} {vs : List Value} {f : Nat → Option Nat} {q0 t0 qk ci : Nat} {i : Int32} (S : CallFix p m c cc nL s args Ts own) (I : KI D cy A ww s H locs) (ha : ww[q0]? = some (a, .inl (cA, n, .inr (.inr (.inr (.inr f)))))) (ht : (kTy cy)[t0]? = some (cA, .object r.1)) (hv : ww[qk]? = some (v, .inr (ci, vs))) (hc : kCl[ci]? = some r) (hj : j < n) (hn : n < 2 ^ 31) (hi : i = nI j)
    (hw : ww.set q0 (a, .inl (cA, n, .inr (.inr (.inr (.inr (va_up f j (some v))))))) = w1) (d : decode cc pc = .ok (.aastore, 1))
    (kk : ∀ (H1 : Heap) (locs1 : List Loc), KI D cy A w1 s H1 locs1 → W p l e R s m args below meth c H1 locs1 cells slots Q (F0 m (pc + 1) ls rest)) : W p l e R s m args below meth c H locs cells slots Q (F0 m pc ls (.ref v :: .int i :: .ref a :: rest)) := by
  subst hi; subst hw
  refine va_astq S.1 S.2.1 I.1 I.2.2.2.1 I.2.2.2.2.1 I.2.2.2.2.2 q0 t0 qk ci ha ht hv hc (vp_in_nI hj hn) d (fun H1 locs1 hP hD hS => ?_)
  rw [nI_clamp (by omega)] at hP hD
  exact kk H1 locs1 ⟨I.1, I.2.1, I.2.2.1, hP, hD, hS⟩
theorem k_putF {C : String} {T : u_T} {N ci index k a q0 : Nat} {fs : List Value} {v : Value} {ty : FieldType} (S : CallFix p m c cc nL s args Ts own) (I : KI D cy A ww s H locs) (hin : ∀ w ∈ u_ws C T N, w ∈ Ts) (ty0 : Nat → FieldType) (hty : ∀ k, k < N → parseFieldDescriptor (T k).2.2.1 = some (ty0 k)) (hnm : ∀ a, a < N → ∀ b, b < N → a ≠ b → (T a).2.1 ≠ (T b).2.1) (he : ww[q0]? = some (a, .inr (ci, fs))) (hc : kCl[ci]? = some (C, T, N)) (hk : k < N) (hlink : Cond.fieldLink own index (T k).1 (T k).2.1 (T k).2.2.1 ∈ Ts) (hfin : (T k).2.2.2 = true) (hini : meth.name = "<init>") (hdecl : (T k).1 = own) (htk : ty0 k = ty) (hn : narrow ty v = v) (hfit : fits ty v = true) (hl : k < fs.length) (hw : ww.set q0 (a, .inr (ci, fs.set k v)) = w1) (d : decode cc pc = .ok (.putfield index, 3))
    (kk : ∀ (H1 : Heap) (locs1 : List Loc), KI D cy A w1 s H1 locs1 → W p l e R s m args below meth c H1 locs1 cells slots Q (F0 m (pc + 3) ls rest)) : W p l e R s m args below meth c H locs cells slots Q (F0 m pc ls (v :: .ref a :: rest)) := by
  subst hw
  exact va_putF S.1 S.2.1 S.2.2.2.2 hin ty0 hty hnm S.2.2.2.1 I.1 I.2.2.2.1 I.2.2.2.2.1 I.2.2.2.2.2 q0 he hc k hk (S.2.2.2.2 _ hlink) (fun _ h => h) hfin hini hdecl (htk ▸ hty k hk) hn hfit hl d (fun H1 locs1 hP hD hS => kk H1 locs1 ⟨I.1, I.2.1, I.2.2.1, hP, hD, hS⟩)
/-- a nest mate's private constructor -/
theorem k_IN {U : Type} {wf : U → va_W} {post : U → Prop} {index maxL mc ms n : Nat} {y : MethodName} {bytes : ByteArray} {ws : List Cond} {rm : Room} {b : Addr} {As : List Value} {host : String} (S : CallFix p m c cc nL s args Ts own) (I : KI D cy A ww s H locs) (hM : Met l y ws rm (va_Pc (.ref b :: As) (KP D cy A ww)) (va_Qv post (fun u => KB D cy A (wf u)) A) mc ms A)
    (cw : va_CN R s args own index y host bytes maxL none ws rm mc ms n ∧ y.name = "<init>" ∧ (Cond.instanceMethod y).before args s = true) (hn : As.length = n) (hl : ls.size = nL) (hst : st0 = As.reverse ++ .ref b :: rest) (hr : (rest.map fun v => v.category).sum ≤ 8) (d : decode cc pc = .ok (.invokespecial index, 3)) (hf : cells + mc ≤ R.cells ∧ slots + ms ≤ R.slots)
    (kk : ∀ (u : U) (H1 : Heap) (locs1 : List Loc), post u → KI D cy A (wf u) s H1 locs1 → W p l e R s m args below meth c H1 locs1 (cells + mc) (slots + ms) Q (F0 m (pc + 3) ls rest)) : W p l e R s m args below meth c H locs cells slots Q (F0 m pc ls st0) := by
  have hI := I
  obtain ⟨h1, h2, h3, h4, h5, h6⟩ := I
  refine va_callv (va_runIN (As := As) (rest := rest) S hM cw ⟨KP_blind, fun U hU hW => ⟨rfl, hI.pre hU hW⟩⟩ rfl hn hl hst (lv_room (m := m) (pc := pc) (ls := ls) (rest := st0) hr) d hf) h6 (fun _ _ h => h) (fun _ h => h) (fun u t H1 locs1 ht hvm hw hB hz1 hk1 hS1 => ?_)
  exact kk u H1 locs1 hw (hI.post ht hB hS1)
/-- a constructor -/
theorem k_II {U : Type} {wf : U → va_W} {post : U → Prop} {index maxL mc ms n : Nat} {y : MethodName} {bytes : ByteArray} {ws : List Cond} {rm : Room} {b : Addr} {As : List Value} (S : CallFix p m c cc nL s args Ts own) (I : KI D cy A ww s H locs) (hM : Met l y ws rm (va_Pc (.ref b :: As) (KP D cy A ww)) (va_Qv post (fun u => KB D cy A (wf u)) A) mc ms A)
    (cw : CallB R s args own index y bytes maxL none ws rm mc ms n ∧ y.name = "<init>" ∧ (Cond.instanceMethod y).before args s = true) (hn : As.length = n) (hl : ls.size = nL) (hst : st0 = As.reverse ++ .ref b :: rest) (hr : (rest.map fun v => v.category).sum ≤ 8) (d : decode cc pc = .ok (.invokespecial index, 3)) (hf : cells + mc ≤ R.cells ∧ slots + ms ≤ R.slots)
    (kk : ∀ (u : U) (H1 : Heap) (locs1 : List Loc), post u → KI D cy A (wf u) s H1 locs1 → W p l e R s m args below meth c H1 locs1 (cells + mc) (slots + ms) Q (F0 m (pc + 3) ls rest)) : W p l e R s m args below meth c H locs cells slots Q (F0 m pc ls st0) := by
  have hI := I
  obtain ⟨h1, h2, h3, h4, h5, h6⟩ := I
  refine va_callv (va_runI (As := As) (rest := rest) S hM cw ⟨KP_blind, fun U hU hW => ⟨rfl, hI.pre hU hW⟩⟩ rfl hn hl hst (lv_room (m := m) (pc := pc) (ls := ls) (rest := st0) hr) d hf) h6 (fun _ _ h => h) (fun _ h => h) (fun u t H1 locs1 ht hvm hw hB hz1 hk1 hS1 => ?_)
  exact kk u H1 locs1 hw (hI.post ht hB hS1)
end KN
end
section
/-! THE CONSTRUCTORS -/
set_option maxHeartbeats 4000000 in
set_option maxRecDepth 100000 in
/-- Level() -/
theorem c_Linit (l : Launch) (D : va_G) (cy : Nat → ClassId) (A : Nat → Prop) (ww : va_W) (h : Nat) : Met l yX0_init wsX0_init ({ frames := 1, cells := 0, slots := 0, locals := 20 }) (va_Pc [.ref h] (KP D cy A ww)) (va_Qv (fun (_ : Unit) => True) (fun _ => KB D cy A ww) A) 0 0 A := by
  refine k_openI (own := RX0) (maxL := 1) (ret := none) (by decide) rfl rfl rfl (Nat.le_of_ble_eq_true rfl) (fun p e s m args below meth c S hr hlk hnm I ls hl => ?_)
  obtain ⟨hx, hb, hml, hown, hts⟩ := id S
  have hl : lv_has ls 1 [(0, .ref h)] := hl
  refine lv_aload_n hx hb dX0_init_0 rfl (lv_at hl 0 rfl) ?_
  refine k_obj S hl.1 (by decide +kernel) (by decide +kernel) (by decide +kernel) dX0_init_1 (Nat.le_of_ble_eq_true rfl) (Nat.le_of_ble_eq_true rfl) ?_
  exact k_vret S hr hlk I rfl dX0_init_4
theorem in_X1_init_X1 : ∀ w ∈ u_ws RX1 TX1 2, w ∈ wsX1_init := by decide +kernel
theorem in_X2_init_X2 : ∀ w ∈ u_ws RX2 TX2 3, w ∈ wsX2_init := by decide +kernel
theorem in_X3_init_X3 : ∀ w ∈ u_ws RX3 TX3 4, w ∈ wsX3_init := by decide +kernel
set_option maxHeartbeats 4000000 in
set_option maxRecDepth 100000 in
/-- Notes() -/
theorem c_Ninit (l : Launch) (D : va_G) (cy : Nat → ClassId) (A : Nat → Prop) (ww : va_W) (h q0 : Nat) (hq : ww[q0]? = some (h, .inr (1, [.null, .int 0]))) : Met l yX1_init wsX1_init ({ frames := 1, cells := 1, slots := 64, locals := 20 }) (va_Pc [.ref h] (KP D cy A ww)) (va_Qv (fun (_ : Nat) => True) (fun r => KB D cy A ((ww ++ ([(r, .inl (cy 1, 64, .inl (fun _ => 0)))] : va_W)).set q0 (h, .inr (1, [.ref r, .int 0])))) A) 1 64 A := by
  refine k_openI (own := RX1) (maxL := 1) (ret := none) (by decide) rfl rfl rfl (Nat.le_of_ble_eq_true rfl) (fun p e s m args below meth c S hr hlk hnm I ls hl => ?_)
  obtain ⟨hx, hb, hml, hown, hts⟩ := id S
  have hl : lv_has ls 1 [(0, .ref h)] := hl
  refine lv_aload_n hx hb dX1_init_0 rfl (lv_at hl 0 rfl) ?_
  refine k_obj S hl.1 (by decide +kernel) (by decide +kernel) (by decide +kernel) dX1_init_1 (Nat.le_of_ble_eq_true rfl) (Nat.le_of_ble_eq_true rfl) ?_
  refine lv_aload_n hx hb dX1_init_4 rfl (lv_at hl 0 rfl) ?_
  refine lv_bipush (v := 64) hx hb dX1_init_5 (by decide) ?_
  refine k_newa (t0 := 1) (N' := 64) S I (by decide +kernel) rfl (by decide) rfl (Nat.le_of_ble_eq_true rfl) (Nat.le_of_ble_eq_true rfl) (Nat.le_of_ble_eq_true rfl) (fun _ => rfl) dX1_init_7 (fun r H I => ?_)
  refine k_putF (T := TX1) (N := 2) (ci := 1) (k := 0) (q0 := q0) (v := .ref r) (ty := .array .int) (fs := [.null, .int 0]) S I in_X1_init_X1 tyX1 tyX1_ok nmX1 (k_app hq) rfl (by decide) (by decide +kernel) rfl hnm rfl rfl rfl rfl (Nat.le_of_ble_eq_true rfl) rfl dX1_init_9 (fun H locs I => ?_)
  exact k_vretS r S hr hlk I trivial rfl dX1_init_12
set_option maxHeartbeats 4000000 in
set_option maxRecDepth 100000 in
/-- Thrown() -/
theorem c_Tinit (l : Launch) (D : va_G) (cy : Nat → ClassId) (A : Nat → Prop) (ww : va_W) (h q0 : Nat) (hq : ww[q0]? = some (h, .inr (2, [.null, .null, .int 0]))) : Met l yX2_init wsX2_init ({ frames := 1, cells := 2, slots := 14, locals := 20 }) (va_Pc [.ref h] (KP D cy A ww)) (va_Qv (fun (_ : Nat × Nat) => True) (fun u => KB D cy A ((((ww ++ ([(u.1, .inl (cy 2, 7, .inl (fun _ => 0)))] : va_W)).set q0 (h, .inr (2, [.ref u.1, .null, .int 0]))) ++ ([(u.2, .inl (cy 3, 7, .inl (fun _ => 0)))] : va_W)).set q0 (h, .inr (2, [.ref u.1, .ref u.2, .int 0])))) A) 2 14 A := by
  refine k_openI (own := RX2) (maxL := 1) (ret := none) (by decide) rfl rfl rfl (Nat.le_of_ble_eq_true rfl) (fun p e s m args below meth c S hr hlk hnm I ls hl => ?_)
  obtain ⟨hx, hb, hml, hown, hts⟩ := id S
  have hl : lv_has ls 1 [(0, .ref h)] := hl
  refine lv_aload_n hx hb dX2_init_0 rfl (lv_at hl 0 rfl) ?_
  refine k_obj S hl.1 (by decide +kernel) (by decide +kernel) (by decide +kernel) dX2_init_1 (Nat.le_of_ble_eq_true rfl) (Nat.le_of_ble_eq_true rfl) ?_
  refine lv_aload_n hx hb dX2_init_4 rfl (lv_at hl 0 rfl) ?_
  refine lv_bipush (v := 7) hx hb dX2_init_5 (by decide) ?_
  refine k_newa (t0 := 2) (N' := 7) S I (by decide +kernel) rfl (by decide) rfl (Nat.le_of_ble_eq_true rfl) (Nat.le_of_ble_eq_true rfl) (Nat.le_of_ble_eq_true rfl) (fun _ => rfl) dX2_init_7 (fun r1 H I => ?_)
  refine k_putF (T := TX2) (N := 3) (ci := 2) (k := 0) (q0 := q0) (v := .ref r1) (ty := .array .int) (fs := [.null, .null, .int 0]) S I in_X2_init_X2 tyX2 tyX2_ok nmX2 (k_app hq) rfl (by decide) (by decide +kernel) rfl hnm rfl rfl rfl rfl (Nat.le_of_ble_eq_true rfl) rfl dX2_init_9 (fun H locs I => ?_)
  refine lv_aload_n hx hb dX2_init_12 rfl (lv_at hl 0 rfl) ?_
  refine lv_bipush (v := 7) hx hb dX2_init_13 (by decide) ?_
  refine k_newa (t0 := 3) (N' := 7) S I (by decide +kernel) rfl (by decide) rfl (Nat.le_of_ble_eq_true rfl) (Nat.le_of_ble_eq_true rfl) (Nat.le_of_ble_eq_true rfl) (fun _ => rfl) dX2_init_15 (fun r2 H I => ?_)
  have hlt : q0 < (ww ++ [(r1, (.inl (cy 2, 7, .inl (fun _ => 0)) : va_E))]).length := by rw [List.length_append]; exact Nat.lt_of_lt_of_le (List.getElem?_eq_some_iff.mp hq).1 (Nat.le_add_right _ _)
  have hq2 : ((ww ++ [(r1, (.inl (cy 2, 7, .inl (fun _ => 0)) : va_E))]).set q0 (h, .inr (2, [.ref r1, .null, .int 0])))[q0]? = some (h, .inr (2, [.ref r1, .null, .int 0])) := by rw [List.getElem?_set_self hlt]
  refine k_putF (T := TX2) (N := 3) (ci := 2) (k := 1) (q0 := q0) (v := .ref r2) (ty := .array .int) (fs := [.ref r1, .null, .int 0]) S I in_X2_init_X2 tyX2 tyX2_ok nmX2 (k_app hq2) rfl (by decide) (by decide +kernel) rfl hnm rfl rfl rfl rfl (Nat.le_of_ble_eq_true rfl) rfl dX2_init_17 (fun H locs I => ?_)
  exact k_vretS (r1, r2) S hr hlk I trivial rfl dX2_init_20
def rC0 : rC := ((fun _ => 0), (fun _ => 0), (fun _ => 0), (fun _ => 0))
def rN0 : rN := ((fun _ => 0), 0)
def rT0 : rT := ((fun _ => 0), (fun _ => 0), 0)
def rAd (a0 a1 a2 a3 a4 a5 a6 a7 a8 a9 a10 a11 a12 : Nat) : Nat → Nat := fun k => match k with | 0 => a0 | 1 => a1 | 2 => a2 | 3 => a3 | 4 => a4 | 5 => a5 | 6 => a6 | 7 => a7 | 8 => a8 | 9 => a9 | 10 => a10 | 11 => a11 | _ => a12
theorem in_X3_init_X0 : ∀ w ∈ u_ws RX0 TX0 4, w ∈ wsX3_init := by decide +kernel
theorem in_X3_init_X1 : ∀ w ∈ u_ws RX1 TX1 2, w ∈ wsX3_init := by decide +kernel
theorem in_X3_init_X2 : ∀ w ∈ u_ws RX2 TX2 3, w ∈ wsX3_init := by decide +kernel
set_option maxHeartbeats 4000000 in
set_option maxRecDepth 100000 in
/-- UnwindRig() -/
theorem c_Rinit (l : Launch) (D : va_G) (cy : Nat → ClassId) (A : Nat → Prop) (h : Nat) : Met l yX3_init wsX3_init ({ frames := 3, cells := 12, slots := 113, locals := 80 }) (va_Pc [.ref h] (KP D cy A [(h, .inr (3, [.null, .null, .null, .int 0]))])) (va_Qv (fun (ad : Nat → Nat) => ad 0 = h) (fun ad => KB D cy A (rgW ad cy rC0 rN0 rT0 0 [])) A) 12 113 A := by
  refine k_openI (own := RX3) (maxL := 2) (ret := none) (by decide) rfl rfl rfl (Nat.le_of_ble_eq_true rfl) (fun p e s m args below meth c S hr hlk hnm I ls hl => ?_)
  obtain ⟨hx, hb, hml, hown, hts⟩ := id S
  have hl : lv_has ls 2 [(0, .ref h)] := hl
  refine lv_aload_n hx hb dX3_init_0 rfl (lv_at hl 0 rfl) ?_
  refine k_obj S hl.1 (by decide +kernel) (by decide +kernel) (by decide +kernel) dX3_init_1 (Nat.le_of_ble_eq_true rfl) (Nat.le_of_ble_eq_true rfl) ?_
  refine lv_aload_n hx hb dX3_init_4 rfl (lv_at hl 0 rfl) ?_
  refine lv_bipush (v := 6) hx hb dX3_init_5 (by decide) ?_
  refine k_newq (t0 := 0) (N' := 6) (C := RX0) (wf := fun a1 => [(h, .inr (3, [.null, .null, .null, .int 0])), (a1, .inl (cy 0, 6, .inr (.inr (.inr (.inr (fun _ => none))))))]) S I (by decide +kernel) I.2.1.2.2.2.2.2.2.2.2 rfl (by decide) rfl (Nat.le_of_ble_eq_true rfl) (Nat.le_of_ble_eq_true rfl) (Nat.le_of_ble_eq_true rfl) (fun _ => rfl) dX3_init_7 (fun a1 H I => ?_)
  refine k_putF (T := TX3) (N := 4) (ci := 3) (k := 0) (q0 := 0) (v := .ref a1) (ty := .array (.object "UnwindRig$Level")) (fs := [.null, .null, .null, .int 0]) (w1 := [(h, .inr (3, [.ref a1, .null, .null, .int 0])), (a1, .inl (cy 0, 6, .inr (.inr (.inr (.inr (fun _ => none))))))]) S I in_X3_init_X3 tyX3 tyX3_ok nmX3 rfl rfl (by decide) (by decide +kernel) rfl hnm rfl rfl rfl rfl (Nat.le_of_ble_eq_true rfl) rfl dX3_init_10 (fun H locs I => ?_)
  refine lv_aload_n hx hb dX3_init_13 rfl (lv_at hl 0 rfl) ?_
  refine k_new (C := RX1) (T := TX1) (N := 2) (ci := 1) (fs := [.null, .int 0]) (wf := fun a2 => [(h, .inr (3, [.ref a1, .null, .null, .int 0])), (a1, .inl (cy 0, 6, .inr (.inr (.inr (.inr (fun _ => none)))))), (a2, .inr (1, [.null, .int 0]))]) S I in_X3_init_X1 tyX1 tyX1_ok (by decide +kernel) (by decide +kernel) (by decide +kernel) rfl (fun j hj => by match j, hj with | 0, _ => rfl | 1, _ => rfl) (Nat.le_of_ble_eq_true rfl) (Nat.le_of_ble_eq_true rfl) (fun _ => rfl) dX3_init_14 (fun a2 H I => ?_)
  refine lv_dup hx hb dX3_init_17 rfl ?_
  refine k_IN (As := []) (rest := [.ref a2, .ref h]) S I (c_Ninit l D cy A _ a2 2 rfl) ⟨va_cnB 0 hts gX3_init_X1_init_n17 rfl rfl rfl (I.2.1.2.2.2.2.2.1) (hts (.initialized RX1) (by decide +kernel)) (by decide +kernel) ⟨(Nat.le_of_ble_eq_true rfl), (Nat.le_of_ble_eq_true rfl)⟩, rfl, hts (.instanceMethod yX1_init) (by decide +kernel)⟩ rfl hl.1 rfl (Nat.le_of_ble_eq_true rfl) dX3_init_18 ⟨(Nat.le_of_ble_eq_true rfl), (Nat.le_of_ble_eq_true rfl)⟩ (fun a3 H locs h9 I => ?_)
  have I := I.to (w1 := [(h, .inr (3, [.ref a1, .null, .null, .int 0])), (a1, .inl (cy 0, 6, .inr (.inr (.inr (.inr (fun _ => none)))))), (a2, .inr (1, [.ref a3, .int 0])), (a3, .inl (cy 1, 64, .inl (fun _ => 0)))]) rfl
  refine k_putF (T := TX3) (N := 4) (ci := 3) (k := 1) (q0 := 0) (v := .ref a2) (ty := .object "UnwindRig$Notes") (fs := [.ref a1, .null, .null, .int 0]) (w1 := [(h, .inr (3, [.ref a1, .ref a2, .null, .int 0])), (a1, .inl (cy 0, 6, .inr (.inr (.inr (.inr (fun _ => none)))))), (a2, .inr (1, [.ref a3, .int 0])), (a3, .inl (cy 1, 64, .inl (fun _ => 0)))]) S I in_X3_init_X3 tyX3 tyX3_ok nmX3 rfl rfl (by decide) (by decide +kernel) rfl hnm rfl rfl rfl rfl (Nat.le_of_ble_eq_true rfl) rfl dX3_init_21 (fun H locs I => ?_)
  refine lv_aload_n hx hb dX3_init_24 rfl (lv_at hl 0 rfl) ?_
  refine k_new (C := RX2) (T := TX2) (N := 3) (ci := 2) (fs := [.null, .null, .int 0]) (wf := fun a4 => [(h, .inr (3, [.ref a1, .ref a2, .null, .int 0])), (a1, .inl (cy 0, 6, .inr (.inr (.inr (.inr (fun _ => none)))))), (a2, .inr (1, [.ref a3, .int 0])), (a3, .inl (cy 1, 64, .inl (fun _ => 0))), (a4, .inr (2, [.null, .null, .int 0]))]) S I in_X3_init_X2 tyX2 tyX2_ok (by decide +kernel) (by decide +kernel) (by decide +kernel) rfl (fun j hj => by match j, hj with | 0, _ => rfl | 1, _ => rfl | 2, _ => rfl) (Nat.le_of_ble_eq_true rfl) (Nat.le_of_ble_eq_true rfl) (fun _ => rfl) dX3_init_25 (fun a4 H I => ?_)
  refine lv_dup hx hb dX3_init_28 rfl ?_
  refine k_IN (As := []) (rest := [.ref a4, .ref h]) S I (c_Tinit l D cy A _ a4 4 rfl) ⟨va_cnB 0 hts gX3_init_X2_init_n24 rfl rfl rfl (I.2.1.2.2.2.2.2.2.1) (hts (.initialized RX2) (by decide +kernel)) (by decide +kernel) ⟨(Nat.le_of_ble_eq_true rfl), (Nat.le_of_ble_eq_true rfl)⟩, rfl, hts (.instanceMethod yX2_init) (by decide +kernel)⟩ rfl hl.1 rfl (Nat.le_of_ble_eq_true rfl) dX3_init_29 ⟨(Nat.le_of_ble_eq_true rfl), (Nat.le_of_ble_eq_true rfl)⟩ (fun ⟨a5, a6⟩ H locs h9 I => ?_)
  have I := I.to (w1 := [(h, .inr (3, [.ref a1, .ref a2, .null, .int 0])), (a1, .inl (cy 0, 6, .inr (.inr (.inr (.inr (fun _ => none)))))), (a2, .inr (1, [.ref a3, .int 0])), (a3, .inl (cy 1, 64, .inl (fun _ => 0))), (a4, .inr (2, [.ref a5, .ref a6, .int 0])), (a5, .inl (cy 2, 7, .inl (fun _ => 0))), (a6, .inl (cy 3, 7, .inl (fun _ => 0)))]) rfl
  refine k_putF (T := TX3) (N := 4) (ci := 3) (k := 2) (q0 := 0) (v := .ref a4) (ty := .object "UnwindRig$Thrown") (fs := [.ref a1, .ref a2, .null, .int 0]) (w1 := [(h, .inr (3, [.ref a1, .ref a2, .ref a4, .int 0])), (a1, .inl (cy 0, 6, .inr (.inr (.inr (.inr (fun _ => none)))))), (a2, .inr (1, [.ref a3, .int 0])), (a3, .inl (cy 1, 64, .inl (fun _ => 0))), (a4, .inr (2, [.ref a5, .ref a6, .int 0])), (a5, .inl (cy 2, 7, .inl (fun _ => 0))), (a6, .inl (cy 3, 7, .inl (fun _ => 0)))]) S I in_X3_init_X3 tyX3 tyX3_ok nmX3 rfl rfl (by decide) (by decide +kernel) rfl hnm rfl rfl rfl rfl (Nat.le_of_ble_eq_true rfl) rfl dX3_init_32 (fun H locs I => ?_)
  refine lv_iconst (v := 0) hx hb dX3_init_35 (by decide) ?_
  refine lv_istore_n (lv' := [(1, .int 0), (0, .ref h)]) hx hb dX3_init_36 rfl hl (by decide) rfl (fun ls hl => ?_)
  refine lv_iload_n hx hb dX3_init_37 rfl (lv_at hl 0 rfl) ?_
  refine lv_bipush (v := 6) hx hb dX3_init_38 (by decide) ?_
  refine lv_icmp_ge (tgt := 62) hx hb dX3_init_40 (by decide) (fun c_40 => absurd c_40 (by decide)) (fun _ => ?_)
  refine lv_aload_n hx hb dX3_init_43 rfl (lv_at hl 1 rfl) ?_
  refine k_get (T := TX3) (N := 4) (ci := 3) (k := 0) (q0 := 0) (v := .ref a1) S I in_X3_init_X3 rfl rfl (by decide) (by decide +kernel) rfl dX3_init_44 ?_
  refine lv_iload_n hx hb dX3_init_47 rfl (lv_at hl 0 rfl) ?_
  refine k_new (C := RX0) (T := TX0) (N := 4) (ci := 0) (fs := [.int 0, .int 0, .int 0, .int 0]) (wf := fun b0 => [(h, .inr (3, [.ref a1, .ref a2, .ref a4, .int 0])), (a1, .inl (cy 0, 6, .inr (.inr (.inr (.inr (fun _ => none)))))), (a2, .inr (1, [.ref a3, .int 0])), (a3, .inl (cy 1, 64, .inl (fun _ => 0))), (a4, .inr (2, [.ref a5, .ref a6, .int 0])), (a5, .inl (cy 2, 7, .inl (fun _ => 0))), (a6, .inl (cy 3, 7, .inl (fun _ => 0))), (b0, .inr (0, [.int 0, .int 0, .int 0, .int 0]))]) S I in_X3_init_X0 tyX0 tyX0_ok (by decide +kernel) (by decide +kernel) (by decide +kernel) rfl (fun j hj => by match j, hj with | 0, _ => rfl | 1, _ => rfl | 2, _ => rfl | 3, _ => rfl) (Nat.le_of_ble_eq_true rfl) (Nat.le_of_ble_eq_true rfl) (fun _ => rfl) dX3_init_48 (fun b0 H I => ?_)
  refine lv_dup hx hb dX3_init_51 rfl ?_
  refine k_IN (As := []) (rest := [.ref b0, .int 0, .ref a1]) S I (c_Linit l D cy A _ b0) ⟨va_cnB 0 hts gX3_init_X0_init_n29 rfl rfl rfl (I.2.1.2.2.2.2.2.2.2.1) (hts (.initialized RX0) (by decide +kernel)) (by decide +kernel) ⟨(Nat.le_of_ble_eq_true rfl), (Nat.le_of_ble_eq_true rfl)⟩, rfl, hts (.instanceMethod yX0_init) (by decide +kernel)⟩ rfl hl.1 rfl (Nat.le_of_ble_eq_true rfl) dX3_init_52 ⟨(Nat.le_of_ble_eq_true rfl), (Nat.le_of_ble_eq_true rfl)⟩ (fun _ H locs h9 I => ?_)
  refine k_aast (q0 := 1) (t0 := 0) (j := 0) (qk := 7) (ci := 0) (w1 := [(h, .inr (3, [.ref a1, .ref a2, .ref a4, .int 0])), (a1, .inl (cy 0, 6, .inr (.inr (.inr (.inr (va_up (fun _ => none) 0 (some b0))))))), (a2, .inr (1, [.ref a3, .int 0])), (a3, .inl (cy 1, 64, .inl (fun _ => 0))), (a4, .inr (2, [.ref a5, .ref a6, .int 0])), (a5, .inl (cy 2, 7, .inl (fun _ => 0))), (a6, .inl (cy 3, 7, .inl (fun _ => 0))), (b0, .inr (0, [.int 0, .int 0, .int 0, .int 0]))]) S I rfl rfl rfl rfl (by decide) (by decide) rfl rfl dX3_init_55 (fun H locs I => ?_)
  refine lv_iinc (v := 1) (lv' := [(1, .int 1), (0, .ref h)]) hx hb dX3_init_56 hl (k := 0) rfl (by decide) (by decide) rfl (fun ls hl => ?_)
  refine lv_goto (tgt := 37) hx hb dX3_init_59 (by decide) ?_
  refine lv_iload_n hx hb dX3_init_37 rfl (lv_at hl 0 rfl) ?_
  refine lv_bipush (v := 6) hx hb dX3_init_38 (by decide) ?_
  refine lv_icmp_ge (tgt := 62) hx hb dX3_init_40 (by decide) (fun c_40 => absurd c_40 (by decide)) (fun _ => ?_)
  refine lv_aload_n hx hb dX3_init_43 rfl (lv_at hl 1 rfl) ?_
  refine k_get (T := TX3) (N := 4) (ci := 3) (k := 0) (q0 := 0) (v := .ref a1) S I in_X3_init_X3 rfl rfl (by decide) (by decide +kernel) rfl dX3_init_44 ?_
  refine lv_iload_n hx hb dX3_init_47 rfl (lv_at hl 0 rfl) ?_
  refine k_new (C := RX0) (T := TX0) (N := 4) (ci := 0) (fs := [.int 0, .int 0, .int 0, .int 0]) (wf := fun b1 => [(h, .inr (3, [.ref a1, .ref a2, .ref a4, .int 0])), (a1, .inl (cy 0, 6, .inr (.inr (.inr (.inr (va_up (fun _ => none) 0 (some b0))))))), (a2, .inr (1, [.ref a3, .int 0])), (a3, .inl (cy 1, 64, .inl (fun _ => 0))), (a4, .inr (2, [.ref a5, .ref a6, .int 0])), (a5, .inl (cy 2, 7, .inl (fun _ => 0))), (a6, .inl (cy 3, 7, .inl (fun _ => 0))), (b0, .inr (0, [.int 0, .int 0, .int 0, .int 0])), (b1, .inr (0, [.int 0, .int 0, .int 0, .int 0]))]) S I in_X3_init_X0 tyX0 tyX0_ok (by decide +kernel) (by decide +kernel) (by decide +kernel) rfl (fun j hj => by match j, hj with | 0, _ => rfl | 1, _ => rfl | 2, _ => rfl | 3, _ => rfl) (Nat.le_of_ble_eq_true rfl) (Nat.le_of_ble_eq_true rfl) (fun _ => rfl) dX3_init_48 (fun b1 H I => ?_)
  refine lv_dup hx hb dX3_init_51 rfl ?_
  refine k_IN (As := []) (rest := [.ref b1, .int 1, .ref a1]) S I (c_Linit l D cy A _ b1) ⟨va_cnB 0 hts gX3_init_X0_init_n29 rfl rfl rfl (I.2.1.2.2.2.2.2.2.2.1) (hts (.initialized RX0) (by decide +kernel)) (by decide +kernel) ⟨(Nat.le_of_ble_eq_true rfl), (Nat.le_of_ble_eq_true rfl)⟩, rfl, hts (.instanceMethod yX0_init) (by decide +kernel)⟩ rfl hl.1 rfl (Nat.le_of_ble_eq_true rfl) dX3_init_52 ⟨(Nat.le_of_ble_eq_true rfl), (Nat.le_of_ble_eq_true rfl)⟩ (fun _ H locs h9 I => ?_)
  refine k_aast (q0 := 1) (t0 := 0) (j := 1) (qk := 8) (ci := 0) (w1 := [(h, .inr (3, [.ref a1, .ref a2, .ref a4, .int 0])), (a1, .inl (cy 0, 6, .inr (.inr (.inr (.inr (va_up (va_up (fun _ => none) 0 (some b0)) 1 (some b1))))))), (a2, .inr (1, [.ref a3, .int 0])), (a3, .inl (cy 1, 64, .inl (fun _ => 0))), (a4, .inr (2, [.ref a5, .ref a6, .int 0])), (a5, .inl (cy 2, 7, .inl (fun _ => 0))), (a6, .inl (cy 3, 7, .inl (fun _ => 0))), (b0, .inr (0, [.int 0, .int 0, .int 0, .int 0])), (b1, .inr (0, [.int 0, .int 0, .int 0, .int 0]))]) S I rfl rfl rfl rfl (by decide) (by decide) rfl rfl dX3_init_55 (fun H locs I => ?_)
  refine lv_iinc (v := 2) (lv' := [(1, .int 2), (0, .ref h)]) hx hb dX3_init_56 hl (k := 0) rfl (by decide) (by decide) rfl (fun ls hl => ?_)
  refine lv_goto (tgt := 37) hx hb dX3_init_59 (by decide) ?_
  refine lv_iload_n hx hb dX3_init_37 rfl (lv_at hl 0 rfl) ?_
  refine lv_bipush (v := 6) hx hb dX3_init_38 (by decide) ?_
  refine lv_icmp_ge (tgt := 62) hx hb dX3_init_40 (by decide) (fun c_40 => absurd c_40 (by decide)) (fun _ => ?_)
  refine lv_aload_n hx hb dX3_init_43 rfl (lv_at hl 1 rfl) ?_
  refine k_get (T := TX3) (N := 4) (ci := 3) (k := 0) (q0 := 0) (v := .ref a1) S I in_X3_init_X3 rfl rfl (by decide) (by decide +kernel) rfl dX3_init_44 ?_
  refine lv_iload_n hx hb dX3_init_47 rfl (lv_at hl 0 rfl) ?_
  refine k_new (C := RX0) (T := TX0) (N := 4) (ci := 0) (fs := [.int 0, .int 0, .int 0, .int 0]) (wf := fun b2 => [(h, .inr (3, [.ref a1, .ref a2, .ref a4, .int 0])), (a1, .inl (cy 0, 6, .inr (.inr (.inr (.inr (va_up (va_up (fun _ => none) 0 (some b0)) 1 (some b1))))))), (a2, .inr (1, [.ref a3, .int 0])), (a3, .inl (cy 1, 64, .inl (fun _ => 0))), (a4, .inr (2, [.ref a5, .ref a6, .int 0])), (a5, .inl (cy 2, 7, .inl (fun _ => 0))), (a6, .inl (cy 3, 7, .inl (fun _ => 0))), (b0, .inr (0, [.int 0, .int 0, .int 0, .int 0])), (b1, .inr (0, [.int 0, .int 0, .int 0, .int 0])), (b2, .inr (0, [.int 0, .int 0, .int 0, .int 0]))]) S I in_X3_init_X0 tyX0 tyX0_ok (by decide +kernel) (by decide +kernel) (by decide +kernel) rfl (fun j hj => by match j, hj with | 0, _ => rfl | 1, _ => rfl | 2, _ => rfl | 3, _ => rfl) (Nat.le_of_ble_eq_true rfl) (Nat.le_of_ble_eq_true rfl) (fun _ => rfl) dX3_init_48 (fun b2 H I => ?_)
  refine lv_dup hx hb dX3_init_51 rfl ?_
  refine k_IN (As := []) (rest := [.ref b2, .int 2, .ref a1]) S I (c_Linit l D cy A _ b2) ⟨va_cnB 0 hts gX3_init_X0_init_n29 rfl rfl rfl (I.2.1.2.2.2.2.2.2.2.1) (hts (.initialized RX0) (by decide +kernel)) (by decide +kernel) ⟨(Nat.le_of_ble_eq_true rfl), (Nat.le_of_ble_eq_true rfl)⟩, rfl, hts (.instanceMethod yX0_init) (by decide +kernel)⟩ rfl hl.1 rfl (Nat.le_of_ble_eq_true rfl) dX3_init_52 ⟨(Nat.le_of_ble_eq_true rfl), (Nat.le_of_ble_eq_true rfl)⟩ (fun _ H locs h9 I => ?_)
  refine k_aast (q0 := 1) (t0 := 0) (j := 2) (qk := 9) (ci := 0) (w1 := [(h, .inr (3, [.ref a1, .ref a2, .ref a4, .int 0])), (a1, .inl (cy 0, 6, .inr (.inr (.inr (.inr (va_up (va_up (va_up (fun _ => none) 0 (some b0)) 1 (some b1)) 2 (some b2))))))), (a2, .inr (1, [.ref a3, .int 0])), (a3, .inl (cy 1, 64, .inl (fun _ => 0))), (a4, .inr (2, [.ref a5, .ref a6, .int 0])), (a5, .inl (cy 2, 7, .inl (fun _ => 0))), (a6, .inl (cy 3, 7, .inl (fun _ => 0))), (b0, .inr (0, [.int 0, .int 0, .int 0, .int 0])), (b1, .inr (0, [.int 0, .int 0, .int 0, .int 0])), (b2, .inr (0, [.int 0, .int 0, .int 0, .int 0]))]) S I rfl rfl rfl rfl (by decide) (by decide) rfl rfl dX3_init_55 (fun H locs I => ?_)
  refine lv_iinc (v := 3) (lv' := [(1, .int 3), (0, .ref h)]) hx hb dX3_init_56 hl (k := 0) rfl (by decide) (by decide) rfl (fun ls hl => ?_)
  refine lv_goto (tgt := 37) hx hb dX3_init_59 (by decide) ?_
  refine lv_iload_n hx hb dX3_init_37 rfl (lv_at hl 0 rfl) ?_
  refine lv_bipush (v := 6) hx hb dX3_init_38 (by decide) ?_
  refine lv_icmp_ge (tgt := 62) hx hb dX3_init_40 (by decide) (fun c_40 => absurd c_40 (by decide)) (fun _ => ?_)
  refine lv_aload_n hx hb dX3_init_43 rfl (lv_at hl 1 rfl) ?_
  refine k_get (T := TX3) (N := 4) (ci := 3) (k := 0) (q0 := 0) (v := .ref a1) S I in_X3_init_X3 rfl rfl (by decide) (by decide +kernel) rfl dX3_init_44 ?_
  refine lv_iload_n hx hb dX3_init_47 rfl (lv_at hl 0 rfl) ?_
  refine k_new (C := RX0) (T := TX0) (N := 4) (ci := 0) (fs := [.int 0, .int 0, .int 0, .int 0]) (wf := fun b3 => [(h, .inr (3, [.ref a1, .ref a2, .ref a4, .int 0])), (a1, .inl (cy 0, 6, .inr (.inr (.inr (.inr (va_up (va_up (va_up (fun _ => none) 0 (some b0)) 1 (some b1)) 2 (some b2))))))), (a2, .inr (1, [.ref a3, .int 0])), (a3, .inl (cy 1, 64, .inl (fun _ => 0))), (a4, .inr (2, [.ref a5, .ref a6, .int 0])), (a5, .inl (cy 2, 7, .inl (fun _ => 0))), (a6, .inl (cy 3, 7, .inl (fun _ => 0))), (b0, .inr (0, [.int 0, .int 0, .int 0, .int 0])), (b1, .inr (0, [.int 0, .int 0, .int 0, .int 0])), (b2, .inr (0, [.int 0, .int 0, .int 0, .int 0])), (b3, .inr (0, [.int 0, .int 0, .int 0, .int 0]))]) S I in_X3_init_X0 tyX0 tyX0_ok (by decide +kernel) (by decide +kernel) (by decide +kernel) rfl (fun j hj => by match j, hj with | 0, _ => rfl | 1, _ => rfl | 2, _ => rfl | 3, _ => rfl) (Nat.le_of_ble_eq_true rfl) (Nat.le_of_ble_eq_true rfl) (fun _ => rfl) dX3_init_48 (fun b3 H I => ?_)
  refine lv_dup hx hb dX3_init_51 rfl ?_
  refine k_IN (As := []) (rest := [.ref b3, .int 3, .ref a1]) S I (c_Linit l D cy A _ b3) ⟨va_cnB 0 hts gX3_init_X0_init_n29 rfl rfl rfl (I.2.1.2.2.2.2.2.2.2.1) (hts (.initialized RX0) (by decide +kernel)) (by decide +kernel) ⟨(Nat.le_of_ble_eq_true rfl), (Nat.le_of_ble_eq_true rfl)⟩, rfl, hts (.instanceMethod yX0_init) (by decide +kernel)⟩ rfl hl.1 rfl (Nat.le_of_ble_eq_true rfl) dX3_init_52 ⟨(Nat.le_of_ble_eq_true rfl), (Nat.le_of_ble_eq_true rfl)⟩ (fun _ H locs h9 I => ?_)
  refine k_aast (q0 := 1) (t0 := 0) (j := 3) (qk := 10) (ci := 0) (w1 := [(h, .inr (3, [.ref a1, .ref a2, .ref a4, .int 0])), (a1, .inl (cy 0, 6, .inr (.inr (.inr (.inr (va_up (va_up (va_up (va_up (fun _ => none) 0 (some b0)) 1 (some b1)) 2 (some b2)) 3 (some b3))))))), (a2, .inr (1, [.ref a3, .int 0])), (a3, .inl (cy 1, 64, .inl (fun _ => 0))), (a4, .inr (2, [.ref a5, .ref a6, .int 0])), (a5, .inl (cy 2, 7, .inl (fun _ => 0))), (a6, .inl (cy 3, 7, .inl (fun _ => 0))), (b0, .inr (0, [.int 0, .int 0, .int 0, .int 0])), (b1, .inr (0, [.int 0, .int 0, .int 0, .int 0])), (b2, .inr (0, [.int 0, .int 0, .int 0, .int 0])), (b3, .inr (0, [.int 0, .int 0, .int 0, .int 0]))]) S I rfl rfl rfl rfl (by decide) (by decide) rfl rfl dX3_init_55 (fun H locs I => ?_)
  refine lv_iinc (v := 4) (lv' := [(1, .int 4), (0, .ref h)]) hx hb dX3_init_56 hl (k := 0) rfl (by decide) (by decide) rfl (fun ls hl => ?_)
  refine lv_goto (tgt := 37) hx hb dX3_init_59 (by decide) ?_
  refine lv_iload_n hx hb dX3_init_37 rfl (lv_at hl 0 rfl) ?_
  refine lv_bipush (v := 6) hx hb dX3_init_38 (by decide) ?_
  refine lv_icmp_ge (tgt := 62) hx hb dX3_init_40 (by decide) (fun c_40 => absurd c_40 (by decide)) (fun _ => ?_)
  refine lv_aload_n hx hb dX3_init_43 rfl (lv_at hl 1 rfl) ?_
  refine k_get (T := TX3) (N := 4) (ci := 3) (k := 0) (q0 := 0) (v := .ref a1) S I in_X3_init_X3 rfl rfl (by decide) (by decide +kernel) rfl dX3_init_44 ?_
  refine lv_iload_n hx hb dX3_init_47 rfl (lv_at hl 0 rfl) ?_
  refine k_new (C := RX0) (T := TX0) (N := 4) (ci := 0) (fs := [.int 0, .int 0, .int 0, .int 0]) (wf := fun b4 => [(h, .inr (3, [.ref a1, .ref a2, .ref a4, .int 0])), (a1, .inl (cy 0, 6, .inr (.inr (.inr (.inr (va_up (va_up (va_up (va_up (fun _ => none) 0 (some b0)) 1 (some b1)) 2 (some b2)) 3 (some b3))))))), (a2, .inr (1, [.ref a3, .int 0])), (a3, .inl (cy 1, 64, .inl (fun _ => 0))), (a4, .inr (2, [.ref a5, .ref a6, .int 0])), (a5, .inl (cy 2, 7, .inl (fun _ => 0))), (a6, .inl (cy 3, 7, .inl (fun _ => 0))), (b0, .inr (0, [.int 0, .int 0, .int 0, .int 0])), (b1, .inr (0, [.int 0, .int 0, .int 0, .int 0])), (b2, .inr (0, [.int 0, .int 0, .int 0, .int 0])), (b3, .inr (0, [.int 0, .int 0, .int 0, .int 0])), (b4, .inr (0, [.int 0, .int 0, .int 0, .int 0]))]) S I in_X3_init_X0 tyX0 tyX0_ok (by decide +kernel) (by decide +kernel) (by decide +kernel) rfl (fun j hj => by match j, hj with | 0, _ => rfl | 1, _ => rfl | 2, _ => rfl | 3, _ => rfl) (Nat.le_of_ble_eq_true rfl) (Nat.le_of_ble_eq_true rfl) (fun _ => rfl) dX3_init_48 (fun b4 H I => ?_)
  refine lv_dup hx hb dX3_init_51 rfl ?_
  refine k_IN (As := []) (rest := [.ref b4, .int 4, .ref a1]) S I (c_Linit l D cy A _ b4) ⟨va_cnB 0 hts gX3_init_X0_init_n29 rfl rfl rfl (I.2.1.2.2.2.2.2.2.2.1) (hts (.initialized RX0) (by decide +kernel)) (by decide +kernel) ⟨(Nat.le_of_ble_eq_true rfl), (Nat.le_of_ble_eq_true rfl)⟩, rfl, hts (.instanceMethod yX0_init) (by decide +kernel)⟩ rfl hl.1 rfl (Nat.le_of_ble_eq_true rfl) dX3_init_52 ⟨(Nat.le_of_ble_eq_true rfl), (Nat.le_of_ble_eq_true rfl)⟩ (fun _ H locs h9 I => ?_)
  refine k_aast (q0 := 1) (t0 := 0) (j := 4) (qk := 11) (ci := 0) (w1 := [(h, .inr (3, [.ref a1, .ref a2, .ref a4, .int 0])), (a1, .inl (cy 0, 6, .inr (.inr (.inr (.inr (va_up (va_up (va_up (va_up (va_up (fun _ => none) 0 (some b0)) 1 (some b1)) 2 (some b2)) 3 (some b3)) 4 (some b4))))))), (a2, .inr (1, [.ref a3, .int 0])), (a3, .inl (cy 1, 64, .inl (fun _ => 0))), (a4, .inr (2, [.ref a5, .ref a6, .int 0])), (a5, .inl (cy 2, 7, .inl (fun _ => 0))), (a6, .inl (cy 3, 7, .inl (fun _ => 0))), (b0, .inr (0, [.int 0, .int 0, .int 0, .int 0])), (b1, .inr (0, [.int 0, .int 0, .int 0, .int 0])), (b2, .inr (0, [.int 0, .int 0, .int 0, .int 0])), (b3, .inr (0, [.int 0, .int 0, .int 0, .int 0])), (b4, .inr (0, [.int 0, .int 0, .int 0, .int 0]))]) S I rfl rfl rfl rfl (by decide) (by decide) rfl rfl dX3_init_55 (fun H locs I => ?_)
  refine lv_iinc (v := 5) (lv' := [(1, .int 5), (0, .ref h)]) hx hb dX3_init_56 hl (k := 0) rfl (by decide) (by decide) rfl (fun ls hl => ?_)
  refine lv_goto (tgt := 37) hx hb dX3_init_59 (by decide) ?_
  refine lv_iload_n hx hb dX3_init_37 rfl (lv_at hl 0 rfl) ?_
  refine lv_bipush (v := 6) hx hb dX3_init_38 (by decide) ?_
  refine lv_icmp_ge (tgt := 62) hx hb dX3_init_40 (by decide) (fun c_40 => absurd c_40 (by decide)) (fun _ => ?_)
  refine lv_aload_n hx hb dX3_init_43 rfl (lv_at hl 1 rfl) ?_
  refine k_get (T := TX3) (N := 4) (ci := 3) (k := 0) (q0 := 0) (v := .ref a1) S I in_X3_init_X3 rfl rfl (by decide) (by decide +kernel) rfl dX3_init_44 ?_
  refine lv_iload_n hx hb dX3_init_47 rfl (lv_at hl 0 rfl) ?_
  refine k_new (C := RX0) (T := TX0) (N := 4) (ci := 0) (fs := [.int 0, .int 0, .int 0, .int 0]) (wf := fun b5 => [(h, .inr (3, [.ref a1, .ref a2, .ref a4, .int 0])), (a1, .inl (cy 0, 6, .inr (.inr (.inr (.inr (va_up (va_up (va_up (va_up (va_up (fun _ => none) 0 (some b0)) 1 (some b1)) 2 (some b2)) 3 (some b3)) 4 (some b4))))))), (a2, .inr (1, [.ref a3, .int 0])), (a3, .inl (cy 1, 64, .inl (fun _ => 0))), (a4, .inr (2, [.ref a5, .ref a6, .int 0])), (a5, .inl (cy 2, 7, .inl (fun _ => 0))), (a6, .inl (cy 3, 7, .inl (fun _ => 0))), (b0, .inr (0, [.int 0, .int 0, .int 0, .int 0])), (b1, .inr (0, [.int 0, .int 0, .int 0, .int 0])), (b2, .inr (0, [.int 0, .int 0, .int 0, .int 0])), (b3, .inr (0, [.int 0, .int 0, .int 0, .int 0])), (b4, .inr (0, [.int 0, .int 0, .int 0, .int 0])), (b5, .inr (0, [.int 0, .int 0, .int 0, .int 0]))]) S I in_X3_init_X0 tyX0 tyX0_ok (by decide +kernel) (by decide +kernel) (by decide +kernel) rfl (fun j hj => by match j, hj with | 0, _ => rfl | 1, _ => rfl | 2, _ => rfl | 3, _ => rfl) (Nat.le_of_ble_eq_true rfl) (Nat.le_of_ble_eq_true rfl) (fun _ => rfl) dX3_init_48 (fun b5 H I => ?_)
  refine lv_dup hx hb dX3_init_51 rfl ?_
  refine k_IN (As := []) (rest := [.ref b5, .int 5, .ref a1]) S I (c_Linit l D cy A _ b5) ⟨va_cnB 0 hts gX3_init_X0_init_n29 rfl rfl rfl (I.2.1.2.2.2.2.2.2.2.1) (hts (.initialized RX0) (by decide +kernel)) (by decide +kernel) ⟨(Nat.le_of_ble_eq_true rfl), (Nat.le_of_ble_eq_true rfl)⟩, rfl, hts (.instanceMethod yX0_init) (by decide +kernel)⟩ rfl hl.1 rfl (Nat.le_of_ble_eq_true rfl) dX3_init_52 ⟨(Nat.le_of_ble_eq_true rfl), (Nat.le_of_ble_eq_true rfl)⟩ (fun _ H locs h9 I => ?_)
  refine k_aast (q0 := 1) (t0 := 0) (j := 5) (qk := 12) (ci := 0) (w1 := [(h, .inr (3, [.ref a1, .ref a2, .ref a4, .int 0])), (a1, .inl (cy 0, 6, .inr (.inr (.inr (.inr (va_up (va_up (va_up (va_up (va_up (va_up (fun _ => none) 0 (some b0)) 1 (some b1)) 2 (some b2)) 3 (some b3)) 4 (some b4)) 5 (some b5))))))), (a2, .inr (1, [.ref a3, .int 0])), (a3, .inl (cy 1, 64, .inl (fun _ => 0))), (a4, .inr (2, [.ref a5, .ref a6, .int 0])), (a5, .inl (cy 2, 7, .inl (fun _ => 0))), (a6, .inl (cy 3, 7, .inl (fun _ => 0))), (b0, .inr (0, [.int 0, .int 0, .int 0, .int 0])), (b1, .inr (0, [.int 0, .int 0, .int 0, .int 0])), (b2, .inr (0, [.int 0, .int 0, .int 0, .int 0])), (b3, .inr (0, [.int 0, .int 0, .int 0, .int 0])), (b4, .inr (0, [.int 0, .int 0, .int 0, .int 0])), (b5, .inr (0, [.int 0, .int 0, .int 0, .int 0]))]) S I rfl rfl rfl rfl (by decide) (by decide) rfl rfl dX3_init_55 (fun H locs I => ?_)
  refine lv_iinc (v := 6) (lv' := [(1, .int 6), (0, .ref h)]) hx hb dX3_init_56 hl (k := 0) rfl (by decide) (by decide) rfl (fun ls hl => ?_)
  refine lv_goto (tgt := 37) hx hb dX3_init_59 (by decide) ?_
  refine lv_iload_n hx hb dX3_init_37 rfl (lv_at hl 0 rfl) ?_
  refine lv_bipush (v := 6) hx hb dX3_init_38 (by decide) ?_
  refine lv_icmp_ge (tgt := 62) hx hb dX3_init_40 (by decide) (fun _ => ?_) (fun c_40 => absurd c_40 (by decide))
  have hF : (va_up (va_up (va_up (va_up (va_up (va_up (fun _ => none) 0 (some b0)) 1 (some b1)) 2 (some b2)) 3 (some b3)) 4 (some b4)) 5 (some b5)) = lvF (rAd h a1 b0 b1 b2 b3 b4 b5 a2 a3 a4 a5 a6) := by
    funext j
    match j with
    | 0 => rfl
    | 1 => rfl
    | 2 => rfl
    | 3 => rfl
    | 4 => rfl
    | 5 => rfl
    | j + 6 => simp [va_up, lvF]
  rw [hF] at I
  have I := I.sub (w1 := rgW (rAd h a1 b0 b1 b2 b3 b4 b5 a2 a3 a4 a5 a6) cy rC0 rN0 rT0 0 []) [0, 1, 7, 8, 9, 10, 11, 12, 2, 3, 4, 5, 6] rfl rfl rfl
  exact k_vretS (rAd h a1 b0 b1 b2 b3 b4 b5 a2 a3 a4 a5 a6) S hr hlk I rfl rfl dX3_init_62
end
section
/-! THE NOTES OF A RUN AS A LIST, and how the levels stand in one another in it -/
def kOk (x : Int32) : Prop := x = 1 ∨ x = 2 ∨ x = 3 ∨ x = 4 ∨ x = 5
theorem k1 : kOk 1 := Or.inl rfl
theorem k2 : kOk 2 := Or.inr (Or.inl rfl)
theorem k3 : kOk 3 := Or.inr (Or.inr (Or.inl rfl))
theorem k4 : kOk 4 := Or.inr (Or.inr (Or.inr (Or.inl rfl)))
theorem k5 : kOk 5 := Or.inr (Or.inr (Or.inr (Or.inr rfl)))
/-- notes that are made one behind the other -/
def apN (N : rN) : List Int32 → rN
  | [] => N
  | x :: L => apN (nt N x) L
theorem apN_app (N : rN) (a b : List Int32) : apN N (a ++ b) = apN (apN N a) b := by
  induction a generalizing N with
  | nil => rfl
  | cons x a ih => exact ih (nt N x)
theorem apN_2 (N : rN) (a : List Int32) : (apN N a).2 = N.2 + a.length := by
  induction a generalizing N with
  | nil => rfl
  | cons x a ih =>
    show (apN (nt N x) a).2 = _
    rw [ih, nt_2, List.length_cons]
    omega
theorem nt_lo {N : rN} {x : Int32} {j : Nat} (h : j < N.2) : (nt N x).1 j = N.1 j := by
  unfold nt
  split
  · exact pk_un (by omega)
  · rfl
theorem nt_at {N : rN} {x : Int32} (h : N.2 < 64) : (nt N x).1 N.2 = x := by
  unfold nt
  rw [if_pos h]
  exact pk_us
theorem apN_lo (a : List Int32) : ∀ (N : rN) (j : Nat), j < N.2 → (apN N a).1 j = N.1 j := by
  induction a with
  | nil => intro N j _; rfl
  | cons x a ih =>
    intro N j h
    exact (ih (nt N x) j (by rw [nt_2]; omega)).trans (nt_lo h)
theorem apN_at (a : List Int32) : ∀ (N : rN) (j : Nat) (x : Int32), a[j]? = some x → N.2 + j < 64 → (apN N a).1 (N.2 + j) = x := by
  induction a with
  | nil => intro N j x h; simp at h
  | cons y a ih =>
    intro N j x h h1
    cases j with
    | zero =>
      have e : y = x := by simpa using h
      subst e
      exact (apN_lo a (nt N y) N.2 (by rw [nt_2]; omega)).trans (nt_at (by omega))
    | succ j =>
      have q := ih (nt N y) j x (by simpa using h) (by rw [nt_2]; omega)
      rw [nt_2] at q
      show (apN (nt N y) a).1 (N.2 + (j + 1)) = x
      rw [show N.2 + (j + 1) = N.2 + 1 + j by omega]
      exact q
/-- neither a level nor the closing of level k -/
def otN (k : Nat) (x : Int32) : Prop := ¬ (0 ≤ x ∧ x < 6) ∧ ¬ x = 600 + nI k
/-- these notes take the lowest open level from k to k', and none above B is the lowest while one more comes -/
def bkN (B : Nat) : List Int32 → Nat → Nat → Prop
  | [], k, k' => k = k'
  | x :: L, k, k' => k ≤ B ∧ ((∃ c : Nat, k = c + 1 ∧ x = nI c ∧ bkN B L c k') ∨ (x = 600 + nI k ∧ bkN B L (k + 1) k') ∨ (otN k x ∧ bkN B L k k'))
theorem bkN_app {B : Nat} {b : List Int32} {k2 k3 : Nat} (h2 : bkN B b k2 k3) (a : List Int32) : ∀ k1 : Nat, bkN B a k1 k2 → bkN B (a ++ b) k1 k3 := by
  induction a with
  | nil =>
    intro k1 h1
    have e : k1 = k2 := h1
    subst e
    exact h2
  | cons x a ih =>
    intro k1 h1
    obtain ⟨hb, h⟩ := h1
    refine ⟨hb, ?_⟩
    rcases h with ⟨c, e1, e2, h⟩ | ⟨e, h⟩ | ⟨e, h⟩
    · exact Or.inl ⟨c, e1, e2, ih c h⟩
    · exact Or.inr (Or.inl ⟨e, ih (k1 + 1) h⟩)
    · exact Or.inr (Or.inr ⟨e, ih k1 h⟩)
theorem bkN_le {B B' : Nat} (hB : B ≤ B') {k2 : Nat} (a : List Int32) : ∀ k1 : Nat, bkN B a k1 k2 → bkN B' a k1 k2 := by
  induction a with
  | nil => intro k1 h1; exact h1
  | cons x a ih =>
    intro k1 h1
    obtain ⟨hb, h⟩ := h1
    refine ⟨Nat.le_trans hb hB, ?_⟩
    rcases h with ⟨c, e1, e2, h⟩ | ⟨e, h⟩ | ⟨e, h⟩
    · exact Or.inl ⟨c, e1, e2, ih c h⟩
    · exact Or.inr (Or.inl ⟨e, ih (k1 + 1) h⟩)
    · exact Or.inr (Or.inr ⟨e, ih k1 h⟩)
-- what is thrown is of a kind
def kdO (T : rT) : Prop := kdT T = 0 ∨ kOk (kdT T)
theorem kdO_dp (T : rT) : kdO (dpT T) := Or.inl (if_neg (Nat.lt_irrefl 0))
theorem kdO_wp {T : rT} {k n : Int32} (h : kdO T) (hk : kOk k) : kdO (wpT T k n) := by
  unfold wpT
  split
  · right
    rw [show kdT (upd T.1 T.2.2 k, upd T.2.1 T.2.2 n, T.2.2 + 1) = k from (if_pos (Nat.succ_pos _)).trans pk_us]
    exact hk
  · exact h
theorem kdO_tn (T : rT) (k n : Int32) (hk : kOk k) : kdO (tnT T k n) := kdO_wp (kdO_dp T) hk
-- the numbers of the notes
theorem rem_100 (v : Int32) : -100 < (v - v / 100 * 100).toInt ∧ (v - v / 100 * 100).toInt < 100 := by
  have h0 : -2 ^ 31 ≤ v.toInt := v.le_toInt
  have h1 : v.toInt < 2 ^ 31 := v.toInt_lt
  have e := Int.tdiv_mul_add_tmod v.toInt 100
  have a1 := Int.tmod_lt_of_pos v.toInt (b := 100) (by decide)
  have a2 := Int.lt_tmod_of_pos v.toInt (b := 100) (by decide)
  have d : (v / 100).toInt = (v.toInt.tdiv 100).bmod (2 ^ 32) := Int32.toInt_div v 100
  generalize v.toInt.tdiv 100 = q at e d
  generalize v.toInt.tmod 100 = r at e a1 a2
  rw [Int.bmod_eq_of_le (by omega) (by omega)] at d
  have d3 : (v - v / 100 * 100).toInt = r := by
    rw [Int32.toInt_sub, Int32.toInt_mul, d, show (100 : Int32).toInt = 100 from rfl, Int.sub_bmod_bmod, show v.toInt - q * 100 = r by omega]
    exact Int.bmod_eq_of_le (by omega) (by omega)
  omega
theorem otN_hi {x : Int32} (h : 600 < x.toInt) : otN 0 x := by
  refine ⟨fun q => ?_, fun q => ?_⟩
  · have := Int32.lt_iff_toInt_lt.mp q.2
    have e : (6 : Int32).toInt = 6 := rfl
    omega
  · rw [q] at h
    exact absurd h (by decide)
theorem otN_dp (v : Int32) : otN 0 (dpN v) := by
  obtain ⟨h1, h2⟩ := rem_100 v
  refine otN_hi ?_
  unfold dpN
  rw [Int32.toInt_add, show (700 : Int32).toInt = 700 from rfl, Int.bmod_eq_of_le (by omega) (by omega)]
  omega
theorem otN_kd {k : Nat} (hk : k < 6) {x : Int32} (hx : kOk x) : otN k (100 * x + nI k) := by
  unfold otN
  revert k
  rcases hx with rfl | rfl | rfl | rfl | rfl <;> decide +kernel
-- what the levels note
theorem rbF_n (b v : Int32) (S : rS) (hT : kdO S.2) : ∃ m : List Int32, (rbF b v S).1.1 = apN S.1 m ∧ bkN 0 m 0 0 ∧ kdO (rbF b v S).1.2 := by
  unfold rbF
  repeat' split
  all_goals first
    | exact ⟨[], rfl, rfl, kdO_tn _ _ _ k1⟩
    | exact ⟨[], rfl, rfl, kdO_tn _ _ _ k2⟩
    | exact ⟨[], rfl, rfl, kdO_tn _ _ _ k3⟩
    | exact ⟨[], rfl, rfl, kdO_tn _ _ _ k4⟩
    | exact ⟨[], rfl, rfl, kdO_tn _ _ _ k5⟩
    | exact ⟨[], rfl, rfl, hT⟩
    | exact ⟨[dpN v, dpN v, dpN v], rfl, ⟨Nat.le_refl 0, Or.inr (Or.inr ⟨otN_dp v, Nat.le_refl 0, Or.inr (Or.inr ⟨otN_dp v, Nat.le_refl 0, Or.inr (Or.inr ⟨otN_dp v, rfl⟩)⟩)⟩)⟩, kdO_tn _ _ _ k1⟩
def gdN (k : Nat) (g : Int32 → Int32 → rS → rS × Int64) : Prop := ∀ (b v : Int32) (S : rS), kdO S.2 → ∃ m : List Int32, (g b v S).1.1 = apN S.1 m ∧ bkN k m k k ∧ kdO (g b v S).1.2
theorem thF_n {C : rC} {k : Nat} (hk : k < 6) {g : Int32 → Int32 → rS → rS × Int64} (hg : gdN k g) (S : rS) (h0 : kOk (kdT S.2)) : ∃ m : List Int32, (thF C k g S).1.1 = apN S.1 m ∧ bkN k m k k ∧ kdO (thF C k g S).1.2 := by
  have hT : kdO S.2 := Or.inr h0
  have one : bkN k [100 * kdT S.2 + nI k] k k := ⟨Nat.le_refl k, Or.inr (Or.inr ⟨otN_kd hk h0, rfl⟩)⟩
  obtain ⟨m, e, h1, h2⟩ := hg 0 (C.2.2.2 k) (nt S.1 (100 * kdT S.2 + nI k), dpT S.2) (kdO_dp _)
  unfold thF
  dsimp only
  repeat' split
  all_goals first
    | exact ⟨(100 * kdT S.2 + nI k) :: m, e, bkN_app h1 [100 * kdT S.2 + nI k] k one, h2⟩
    | exact ⟨[100 * kdT S.2 + nI k], rfl, one, kdO_dp _⟩
    | exact ⟨[100 * kdT S.2 + nI k], rfl, one, hT⟩
    | exact ⟨[100 * kdT S.2 + nI k], rfl, one, kdO_wp hT k1⟩
    | exact ⟨[100 * kdT S.2 + nI k], rfl, one, kdO_wp hT k2⟩
    | exact ⟨[100 * kdT S.2 + nI k], rfl, one, kdO_tn _ _ _ k3⟩
theorem laF_n (C : rC) (k : Nat) (a : Int64) (S : rS) (hT : kdO S.2) : (laF C k a S).1.1 = nt S.1 (600 + nI k) ∧ kdO (laF C k a S).1.2 := by
  unfold laF
  dsimp only
  repeat' split
  all_goals first
    | exact ⟨rfl, hT⟩
    | exact ⟨rfl, kdO_dp _⟩
    | exact ⟨rfl, kdO_tn _ _ _ k1⟩
    | exact ⟨rfl, kdO_tn _ _ _ k3⟩
theorem dlF_n {C : rC} {k : Nat} (hk : k < 6) {g : Int32 → Int32 → rS → rS × Int64} (hg : gdN k g) (b v : Int32) (S : rS) (hT : kdO S.2) : ∃ m : List Int32, (dlF C k g b v S).1.1 = apN S.1 (nI k :: (m ++ [600 + nI k])) ∧ bkN k m k k ∧ kdO (dlF C k g b v S).1.2 := by
  obtain ⟨m1, e1, b1, t1⟩ := hg b v (nt S.1 (nI k), S.2) hT
  have e1 : (g b v (nt S.1 (nI k), S.2)).1.1 = apN (nt S.1 (nI k)) m1 := e1
  unfold dlF
  dsimp only
  generalize g b v (nt S.1 (nI k), S.2) = S1 at e1 t1 ⊢
  split
  · obtain ⟨q1, q2⟩ := laF_n C k S1.2 S1.1 t1
    refine ⟨m1, ?_, b1, q2⟩
    rw [q1, e1]
    show nt (apN (nt S.1 (nI k)) m1) (600 + nI k) = apN (nt S.1 (nI k)) (m1 ++ [600 + nI k])
    rw [apN_app]
    rfl
  · rename_i hne
    have h0 : kOk (kdT S1.1.2) := t1.resolve_left (fun e => hne (by rw [e]; rfl))
    obtain ⟨m2, e2, b2, t2⟩ := thF_n (C := C) hk hg S1.1 h0
    obtain ⟨q1, q2⟩ := laF_n C k (thF C k g S1.1).2 (thF C k g S1.1).1 t2
    refine ⟨m1 ++ m2, ?_, bkN_app b2 m1 k b1, q2⟩
    rw [q1, e2, e1]
    show nt (apN (apN (nt S.1 (nI k)) m1) m2) (600 + nI k) = apN (nt S.1 (nI k)) (m1 ++ m2 ++ [600 + nI k])
    rw [apN_app, apN_app]
    rfl
theorem gdF_n (C : rC) : ∀ k : Nat, k < 6 → gdN k (gdF C k) := by
  intro k
  induction k with
  | zero => intro _ b v S hT; exact rbF_n b v S hT
  | succ k ih =>
    intro hk b v S hT
    obtain ⟨m, e, h, t⟩ := dlF_n (C := C) (by omega) (ih (by omega)) b v S hT
    have h9 : bkN (k + 1) [600 + nI k] k (k + 1) := ⟨Nat.le_succ k, Or.inr (Or.inl ⟨rfl, rfl⟩)⟩
    exact ⟨nI k :: (m ++ [600 + nI k]), e, ⟨Nat.le_refl _, Or.inl ⟨k, rfl, rfl, bkN_app h9 m k (bkN_le (Nat.le_succ k) m k h)⟩⟩, t⟩
/-- a run's notes: the level that it begins with, and what closes it at last -/
theorem run_n (C : rC) {k : Nat} (hk : k < 6) (b v : Int32) (N : rN) (T : rT) : ∃ r : List Int32, (dlF C k (gdF C k) b v ((N.1, 0), dpT T)).1.1 = apN (N.1, 0) (nI k :: r) ∧ bkN k r k (k + 1) ∧ kdO (dlF C k (gdF C k) b v ((N.1, 0), dpT T)).1.2 := by
  obtain ⟨m, e, h, t⟩ := dlF_n (C := C) hk (gdF_n C k hk) b v ((N.1, 0), dpT T) (kdO_dp T)
  have h9 : bkN k [600 + nI k] k (k + 1) := ⟨Nat.le_refl k, Or.inr (Or.inl ⟨rfl, rfl⟩)⟩
  exact ⟨m ++ [600 + nI k], e, bkN_app h9 m k h, t⟩
/-- what stays small behind a run -/
theorem run_h (C : rC) {k : Nat} (hk : k < 6) (b v : Int32) (N : rN) (T : rT) : (dlF C k (gdF C k) b v ((N.1, 0), dpT T)).1.1.2 < 99000 ∧ (dlF C k (gdF C k) b v ((N.1, 0), dpT T)).1.2.2.2 ≤ 7 := by
  have h := dlF_h (C := C) (k := k) (gdF_h C k) b v ((N.1, 0), dpT T) (Nat.zero_le _)
  exact ⟨Nat.lt_of_le_of_lt h.2 (cgF_le k hk), h.1⟩
/-- the level with which the law begins a run -/
theorem top_of (x : Int32) : ∃ k : Nat, k < 6 ∧ (x &&& 15) - (x &&& 15) / 6 * 6 = nI k := by
  have h : ∃ j : Nat, j < 16 ∧ x &&& 15 = nI j := by
    refine ⟨(x.toBitVec &&& 15#32).toNat, ?_, ?_⟩
    · rw [BitVec.toNat_and]
      exact Nat.lt_of_le_of_lt Nat.and_le_right (by decide)
    · apply Int32.toBitVec_inj.mp
      show x.toBitVec &&& 15#32 = BitVec.ofNat 32 _
      simp
  obtain ⟨j, hj, e⟩ := h
  rw [e]
  have h2 : ∀ j : Nat, j < 16 → nI j - nI j / 6 * 6 = nI (j % 6) := by decide +kernel
  exact ⟨j % 6, Nat.mod_lt j (by decide), h2 j hj⟩
end
section
/-! THE LAW'S FOUR: set, run, note, count with their handlers, laid by wip/p7/lawcalls7.py -/
section KL
variable {p : Program} {l : Launch} {e : Env} {R : Room} {s : State} {m : MethodId} {args : Array Value} {below : List Frame} {meth : Method} {c : Code} {H : Heap} {locs : List Loc} {cells slots : Nat} {Q : State → Prop}
variable {cc : ByteArray} {nL : Nat} {Ts : List Cond} {own : String} {D : va_G} {cy : Nat → ClassId} {A : Nat → Prop} {ww w1 : va_W} {pc : Nat} {ls : Array Slot} {rest st0 : List Value} {a q0 : Nat}
/-- E is caught here, by the row x of the method's table -/
theorem k_catch {E : String} {ce : Cell} {q9 tgt : Nat} {hh : List (Nat × Nat × Nat × Nat)} (pre : List ExceptionTableEntry) (x : ExceptionTableEntry) (suf : List ExceptionTableEntry) (S : CallFix p m c cc nL s args Ts own) (I : KI D cy A ww s H locs) (htab : c.exceptionTable.toList = tableOf hh) (hsp : tableOf hh = pre ++ x :: suf)
    (hpass : ∀ z ∈ pre, ∃ q ∈ ncl, q.1 = E ∧ z.catchType ≠ 0 ∧ Cond.classLink own z.catchType q.2 ∈ Ts) (hx : covers x pc = true) (h0 : x.catchType ≠ 0) (hlink : Cond.classLink own x.catchType E ∈ Ts) (hcast : Cond.castable E E ∈ nwl) (hcell : H[q9]? = some ce) (hv : ce.vm = .none) (hcl : s.vm.findClass E = some ce.cls) (htg : x.handlerPc = tgt)
    (kk : W p l e R s m args below meth c H locs cells slots Q (F0 m tgt ls [.ref q9])) : vx_W p l e R s m args below meth c H locs cells slots Q (F0 m pc ls rest) q9 := by
  subst htg
  refine vx_catch S.2.2.2.1 pre x suf (htab.trans hsp) (fun z hz => ?_) hx h0 (S.2.2.2.2 _ hlink) ((I.2.1.2.2.2.1 _ hcast).use rfl) hcell hv hcl kk
  obtain ⟨q, hq, rfl, h1, h2⟩ := hpass z hz
  exact Or.inr ⟨h1, q.2, S.2.2.2.2 _ h2, I.2.1.2.2.2.2.1 q hq⟩
/-- a long comes back, whichever -/
theorem k_lretT {v : Int64} (S : CallFix p m c cc nL s args Ts own) (hr : meth.sig.returnType = some .long) (hlk : meth.locks = false) (I : KI D cy A ww s H locs) (hw : ww = w1) (d : decode cc pc = .ok (.lreturn, 1)) :
    W p l e R s m args below meth c H locs cells slots (MQ below (va_Ql (fun (_ : Int64) (_ : Unit) => True) (fun _ => KB D cy A w1) A) args s cells slots A) (F0 m pc ls [.long v]) := by
  obtain ⟨h1, h2, h3, h4, h5, h6⟩ := I
  subst hw
  exact W.lret (v := v) S.1 S.2.1 hr (fun t ht hW => ⟨⟨v, (), rfl, trivial, by rw [ht]; exact h4, va_K.moved hW.alike h1, h5⟩, h6.F ht⟩) h6.2.2 d hlk
section KLV
variable {index maxL mc ms n : Nat} {y : MethodName} {bytes : ByteArray} {ret : Option FieldType} {ws : List Cond} {rm : Room} {As : List Value}
/-- a static call of a method with handlers, that answers a long, whichever -/
theorem k_SWl {hh : List (Nat × Nat × Nat × Nat)} (S : CallFix p m c cc nL s args Ts own) (I : KI D cy A ww s H locs) (hM : Met l y ws rm (va_Pc As (KP D cy A ww)) (va_Ql (fun (_ : Int64) (_ : Unit) => True) (fun _ => KB D cy A w1) A) mc ms A)
    (cw : vx_CSW R s args own index y bytes maxL ret hh ws rm mc ms n) (hn : As.length = n) (hl : ls.size = nL) (hst : st0 = As.reverse ++ rest) (hr : (rest.map fun v => v.category).sum ≤ 8) (d : decode cc pc = .ok (.invokestatic index, 3)) (hf : cells + mc ≤ R.cells ∧ slots + ms ≤ R.slots)
    (kk : ∀ (G : Int64) (H1 : Heap) (locs1 : List Loc), KI D cy A w1 s H1 locs1 → W p l e R s m args below meth c H1 locs1 (cells + mc) (slots + ms) Q (F0 m (pc + 3) ls (.long G :: rest))) : W p l e R s m args below meth c H locs cells slots Q (F0 m pc ls st0) := by
  have hI := I
  obtain ⟨h1, h2, h3, h4, h5, h6⟩ := I
  refine va_calll (vx_runSW (As := As) (rest := rest) S hM cw ⟨KP_blind, fun U hU hW => ⟨rfl, hI.pre hU hW⟩⟩ rfl hn hl hst (lv_room (m := m) (pc := pc) (ls := ls) (rest := st0) hr) d hf) h6 (fun _ _ h => h) (fun _ h => h) (fun r u t H1 locs1 ht hvm hw hB hz1 hk1 hS1 => ?_)
  exact kk r H1 locs1 (hI.post ht hB hS1)
end KLV
end KL
def wtL_set : List Cond := wsL_set ++ xwA
def wtL_run : List Cond := wsL_run ++ xwA
def wtL_note : List Cond := wsL_note ++ xwA
def wtL_count : List Cond := wsL_count ++ xwA
set_option maxHeartbeats 4000000 in
set_option maxRecDepth 100000 in
/-- set, a level -/
theorem c_Lset (l : Launch) (hfl : l.stackTraces = false) (D : va_G) (cy : Nat → ClassId) (A : Nat → Prop) (ad : Nat → Nat) (C : rC) (N : rN) (T : rT) (rn : Int32) (X : va_W) (k : Nat) (hk : k < 6) (a b d v : Int32) : Met l yL_set wsL_set ({ frames := 2, cells := 0, slots := 0, locals := 80 }) (va_Pc [.ref (ad 0), .int (nI k), .int a, .int b, .int d, .int v] (KP D cy A (rgW ad cy C N T rn X))) (va_Qi (fun (r : Int32) (_ : Unit) => r = (C.2.2.2 k)) (fun _ => KB D cy A (rgW ad cy (upd C.1 k a, upd C.2.1 k b, upd C.2.2.1 k d, upd C.2.2.2 k v) N T rn X)) A) 0 0 A := by
  refine k_openH (own := RL) (maxL := 7) (ret := (some .int)) (by decide) rfl rfl (Nat.le_of_ble_eq_true rfl) (fun p e s m args below meth c S hr hlk htab I ls hl => ?_)
  obtain ⟨hx, hb, hml, hown, hts⟩ := id S
  have hl : lv_has ls 7 [(0, .ref (ad 0)), (1, .int (nI k)), (2, .int a), (3, .int b), (4, .int d), (5, .int v)] := hl
  refine lv_aload_n hx hb dL_set_0 rfl (lv_at hl 0 rfl) ?_
  refine lv_iload_n hx hb dL_set_1 rfl (lv_at hl 1 rfl) ?_
  refine lv_iload_n hx hb dL_set_2 rfl (lv_at hl 2 rfl) ?_
  refine lv_iload_n hx hb dL_set_3 rfl (lv_at hl 3 rfl) ?_
  refine lv_iload hx hb dL_set_4 (lv_at hl 4 rfl) ?_
  refine lv_iload hx hb dL_set_6 (lv_at hl 5 rfl) ?_
  refine k_Vi (q0 := 0) (As := [.int (nI k), .int a, .int b, .int d, .int v]) (rest := []) (w1 := rgW ad cy (upd C.1 k a, upd C.2.1 k b, upd C.2.2.1 k d, upd C.2.2.2 k v) N T rn X) (G := (C.2.2.2 k)) S I (c_rset1 l D cy A ad C N T rn X k hk a b d v) (cwV 5 hts gL_set_X3_set rfl rfl rfl (by decide +kernel) ⟨(Nat.le_of_ble_eq_true rfl), (Nat.le_of_ble_eq_true rfl)⟩) rfl rfl rfl rfl hl.1 rfl (Nat.le_of_ble_eq_true rfl) dL_set_8 ⟨Nat.zero_le _, Nat.zero_le _⟩ (fun H locs I => ?_)
  exact k_iret S hr hlk I rfl rfl dL_set_11
set_option maxHeartbeats 4000000 in
set_option maxRecDepth 100000 in
/-- note -/
theorem c_Lnote1 (l : Launch) (hfl : l.stackTraces = false) (D : va_G) (cy : Nat → ClassId) (A : Nat → Prop) (ad : Nat → Nat) (C : rC) (N : rN) (T : rT) (rn : Int32) (X : va_W) (hN : N.2 < 100000) (k : Nat) (h1 : k < N.2) (h2 : k < 64) : Met l yL_note wsL_note ({ frames := 4, cells := 0, slots := 0, locals := 120 }) (va_Pc [.ref (ad 0), .int (nI k)] (KP D cy A (rgW ad cy C N T rn X))) (va_Qi (fun (r : Int32) (_ : Unit) => r = (N.1 k)) (fun _ => KB D cy A (rgW ad cy C N T rn X)) A) 0 0 A := by
  refine k_openH (own := RL) (maxL := 3) (ret := (some .int)) (by decide) rfl rfl (Nat.le_of_ble_eq_true rfl) (fun p e s m args below meth c S hr hlk htab I ls hl => ?_)
  obtain ⟨hx, hb, hml, hown, hts⟩ := id S
  have hl : lv_has ls 3 [(0, .ref (ad 0)), (1, .int (nI k))] := hl
  refine lv_aload_n hx hb dL_note_0 rfl (lv_at hl 0 rfl) ?_
  refine lv_iload_n hx hb dL_note_1 rfl (lv_at hl 1 rfl) ?_
  refine k_Vi (q0 := 0) (As := [.int (nI k)]) (rest := []) (w1 := rgW ad cy C N T rn X) (G := (N.1 k)) S I (c_rnote1 l D cy A ad C N T rn X hN k h1 h2) (cwV 1 hts gL_note_X3_note rfl rfl rfl (by decide +kernel) ⟨(Nat.le_of_ble_eq_true rfl), (Nat.le_of_ble_eq_true rfl)⟩) rfl rfl rfl rfl hl.1 rfl (Nat.le_of_ble_eq_true rfl) dL_note_2 ⟨Nat.zero_le _, Nat.zero_le _⟩ (fun H locs I => ?_)
  exact k_iret S hr hlk I rfl rfl dL_note_5
set_option maxHeartbeats 4000000 in
set_option maxRecDepth 100000 in
/-- count -/
theorem c_Lcount1 (l : Launch) (hfl : l.stackTraces = false) (D : va_G) (cy : Nat → ClassId) (A : Nat → Prop) (ad : Nat → Nat) (C : rC) (N : rN) (T : rT) (rn : Int32) (X : va_W) (hT : T.2.2 ≤ 7) (x : Int32) (hx1 : ¬ x < 0 ∧ ¬ 6 < x) : Met l yL_count wsL_count ({ frames := 4, cells := 0, slots := 0, locals := 120 }) (va_Pc [.ref (ad 0), .int x] (KP D cy A (rgW ad cy C N T rn X))) (va_Qi (fun (r : Int32) (_ : Unit) => r = (cnF N T rn x)) (fun _ => KB D cy A (rgW ad cy C N T rn X)) A) 0 0 A := by
  refine k_openH (own := RL) (maxL := 3) (ret := (some .int)) (by decide) rfl rfl (Nat.le_of_ble_eq_true rfl) (fun p e s m args below meth c S hr hlk htab I ls hl => ?_)
  obtain ⟨hx, hb, hml, hown, hts⟩ := id S
  have hl : lv_has ls 3 [(0, .ref (ad 0)), (1, .int x)] := hl
  refine lv_aload_n hx hb dL_count_0 rfl (lv_at hl 0 rfl) ?_
  refine lv_iload_n hx hb dL_count_1 rfl (lv_at hl 1 rfl) ?_
  refine k_Vi (q0 := 0) (As := [.int x]) (rest := []) (w1 := rgW ad cy C N T rn X) (G := (cnF N T rn x)) S I (c_rcount1 l D cy A ad C N T rn X hT x hx1) (cwV 1 hts gL_count_X3_count rfl rfl rfl (by decide +kernel) ⟨(Nat.le_of_ble_eq_true rfl), (Nat.le_of_ble_eq_true rfl)⟩) rfl rfl rfl rfl hl.1 rfl (Nat.le_of_ble_eq_true rfl) dL_count_2 ⟨Nat.zero_le _, Nat.zero_le _⟩ (fun H locs I => ?_)
  exact k_iret S hr hlk I rfl rfl dL_count_5
set_option maxHeartbeats 4000000 in
set_option maxRecDepth 100000 in
/-- note, there is none -/
theorem c_Lnote0 (l : Launch) (hfl : l.stackTraces = false) (D : va_G) (cy : Nat → ClassId) (A : Nat → Prop) (ad : Nat → Nat) (C : rC) (N : rN) (T : rT) (rn : Int32) (X : va_W) (hN : N.2 < 100000) (x : Int32) (hn : x < 0 ∨ nI N.2 ≤ x ∨ 64 ≤ x) : Met l yL_note wtL_note ({ frames := 14, cells := 1, slots := 8, locals := 400 }) (va_Pc [.ref (ad 0), .int x] (KP D cy A (rgW ad cy C N T rn X))) (va_Qi (fun (r : Int32) (_ : Unit) => r = -1000000101) (fun _ => KB D cy A (rgW ad cy C N T rn X)) A) 1 8 A := by
  refine k_openH (own := RL) (maxL := 3) (ret := (some .int)) (by decide) rfl rfl (Nat.le_of_ble_eq_true rfl) (fun p e s m args below meth c S hr hlk htab I ls hl => ?_)
  obtain ⟨hx, hb, hml, hown, hts⟩ := id S
  have hl : lv_has ls 3 [(0, .ref (ad 0)), (1, .int x)] := hl
  refine lv_aload_n hx hb dL_note_0 rfl (lv_at hl 0 rfl) ?_
  refine lv_iload_n hx hb dL_note_1 rfl (lv_at hl 1 rfl) ?_
  refine k_VX (Qc := fun _ _ _ _ => True) (q0 := 0) (As := [.int x]) (rest := []) (w1 := rgW ad cy C N T rn X) S I (c_rnote0 l hfl D cy A ad C N T rn X hN x hn) (cwV 1 hts (gx_V gL_note_X3_note xw_good) rfl rfl rfl (by decide +kernel) ⟨(Nat.le_of_ble_eq_true rfl), (Nat.le_of_ble_eq_true rfl)⟩) rfl rfl rfl rfl hl.1 rfl (Nat.le_of_ble_eq_true rfl) dL_note_2 ⟨(Nat.le_of_ble_eq_true rfl), (Nat.le_of_ble_eq_true rfl)⟩ (fun H locs ce q9 I g1 g2 g3 => ?_)
  refine k_catch (E := "java/lang/ArrayIndexOutOfBoundsException") (tgt := 6) [] ⟨0, 5, 6, 13⟩ [] S I htab rfl (by decide +kernel) (by decide) (by decide) (List.mem_append_left _ (by decide +kernel)) (by decide +kernel) g1 g2 g3 rfl ?_
  refine lv_astore_n (lv' := [(2, .ref q9), (0, .ref (ad 0)), (1, .int x)]) hx hb dL_note_6 rfl hl (by decide) rfl (fun ls hl => ?_)
  refine lv_ldc (v := -1000000101) hx hb hown (hts (.constant RL 15 (-1000000101)) (List.mem_append_left _ (by decide +kernel))) dL_note_7 ?_
  exact k_iret S hr hlk I rfl rfl dL_note_9
set_option maxHeartbeats 4000000 in
set_option maxRecDepth 100000 in
/-- run, whatever comes out of it -/
theorem c_Lrun (l : Launch) (hfl : l.stackTraces = false) (D : va_G) (cy : Nat → ClassId) (A : Nat → Prop) (ad : Nat → Nat) (C : rC) (N : rN) (T : rT) (rn : Int32) (X : va_W) (k : Nat) (hk : k < 6) (b v : Int32) : Met l yL_run wtL_run ({ frames := 82, cells := 1, slots := 8, locals := 3100 }) (va_Pc [.ref (ad 0), .int (nI k), .int b, .int v] (KP D cy A (rgW ad cy C N T rn X))) (va_Ql (fun (_ : Int64) (_ : Unit) => True) (fun _ => KB D cy A (rgW ad cy C ((dlF C k (gdF C k) b v ((N.1, 0), dpT T)).1.1) ((dlF C k (gdF C k) b v ((N.1, 0), dpT T)).1.2) (rn + 1) X)) A) 1 8 A := by
  refine k_openH (own := RL) (maxL := 5) (ret := (some .long)) (by decide) rfl rfl (Nat.le_of_ble_eq_true rfl) (fun p e s m args below meth c S hr hlk htab I ls hl => ?_)
  obtain ⟨hx, hb, hml, hown, hts⟩ := id S
  have hl : lv_has ls 5 [(0, .ref (ad 0)), (1, .int (nI k)), (2, .int b), (3, .int v)] := hl
  refine lv_aload_n hx hb dL_run_0 rfl (lv_at hl 0 rfl) ?_
  refine lv_iload_n hx hb dL_run_1 rfl (lv_at hl 1 rfl) ?_
  refine lv_iload_n hx hb dL_run_2 rfl (lv_at hl 2 rfl) ?_
  refine lv_iload_n hx hb dL_run_3 rfl (lv_at hl 3 rfl) ?_
  obtain ⟨-, -, -, hkd⟩ := run_n C hk b v N T
  rcases hkd with hkd | hkd | hkd | hkd | hkd | hkd
  · refine k_Vl (q0 := 0) (As := [.int (nI k), .int b, .int v]) (rest := []) (w1 := rgW ad cy C ((dlF C k (gdF C k) b v ((N.1, 0), dpT T)).1.1) ((dlF C k (gdF C k) b v ((N.1, 0), dpT T)).1.2) (rn + 1) X) (G := (dlF C k (gdF C k) b v ((N.1, 0), dpT T)).2) S I (c_rrun1 l D cy A ad C N T rn X k hk b v hkd) (cwV 3 hts (gx_L gL_run_X3_run) rfl rfl rfl (by decide +kernel) ⟨(Nat.le_of_ble_eq_true rfl), (Nat.le_of_ble_eq_true rfl)⟩) rfl rfl rfl rfl hl.1 rfl (Nat.le_of_ble_eq_true rfl) dL_run_4 ⟨Nat.zero_le _, Nat.zero_le _⟩ (fun H locs I => ?_)
    refine W.widen (k := 1) (n := 8) (Nat.le_of_ble_eq_true rfl) (Nat.le_of_ble_eq_true rfl) ?_
    exact k_lretT S hr hlk I rfl dL_run_7
  · refine k_VX (Qc := fun _ _ _ _ => True) (q0 := 0) (As := [.int (nI k), .int b, .int v]) (rest := []) (w1 := rgW ad cy C ((dlF C k (gdF C k) b v ((N.1, 0), dpT T)).1.1) ((dlF C k (gdF C k) b v ((N.1, 0), dpT T)).1.2) (rn + 1) X) S I (c_rrunX1 l hfl D cy A ad C N T rn X k hk b v hkd) (cwV 3 hts (gx_V gL_run_X3_run xw_good) rfl rfl rfl (by decide +kernel) ⟨(Nat.le_of_ble_eq_true rfl), (Nat.le_of_ble_eq_true rfl)⟩) rfl rfl rfl rfl hl.1 rfl (Nat.le_of_ble_eq_true rfl) dL_run_4 ⟨(Nat.le_of_ble_eq_true rfl), (Nat.le_of_ble_eq_true rfl)⟩ (fun H locs ce q9 I g1 g2 g3 => ?_)
    refine k_catch (E := "java/lang/IllegalStateException") (tgt := 14) [⟨0, 7, 8, 20⟩] ⟨0, 7, 14, 24⟩ [⟨0, 7, 20, 28⟩, ⟨0, 7, 26, 32⟩, ⟨0, 7, 32, 13⟩] S I htab rfl (by decide +kernel) (by decide) (by decide) (List.mem_append_left _ (by decide +kernel)) (by decide +kernel) g1 g2 g3 rfl ?_
    refine lv_astore (lv' := [(4, .ref q9), (0, .ref (ad 0)), (1, .int (nI k)), (2, .int b), (3, .int v)]) hx hb dL_run_14 hl (by decide) rfl (fun ls hl => ?_)
    refine lv_ldc2 (v := -9000000000102) hx hb hown (hts (.constantLong RL 26 (-9000000000102)) (List.mem_append_left _ (by decide +kernel))) dL_run_16 ?_
    exact k_lretT S hr hlk I rfl dL_run_19
  · refine k_VX (Qc := fun _ _ _ _ => True) (q0 := 0) (As := [.int (nI k), .int b, .int v]) (rest := []) (w1 := rgW ad cy C ((dlF C k (gdF C k) b v ((N.1, 0), dpT T)).1.1) ((dlF C k (gdF C k) b v ((N.1, 0), dpT T)).1.2) (rn + 1) X) S I (c_rrunX2 l hfl D cy A ad C N T rn X k hk b v hkd) (cwV 3 hts (gx_V gL_run_X3_run xw_good) rfl rfl rfl (by decide +kernel) ⟨(Nat.le_of_ble_eq_true rfl), (Nat.le_of_ble_eq_true rfl)⟩) rfl rfl rfl rfl hl.1 rfl (Nat.le_of_ble_eq_true rfl) dL_run_4 ⟨(Nat.le_of_ble_eq_true rfl), (Nat.le_of_ble_eq_true rfl)⟩ (fun H locs ce q9 I g1 g2 g3 => ?_)
    refine k_catch (E := "java/lang/UnsupportedOperationException") (tgt := 20) [⟨0, 7, 8, 20⟩, ⟨0, 7, 14, 24⟩] ⟨0, 7, 20, 28⟩ [⟨0, 7, 26, 32⟩, ⟨0, 7, 32, 13⟩] S I htab rfl (by decide +kernel) (by decide) (by decide) (List.mem_append_left _ (by decide +kernel)) (by decide +kernel) g1 g2 g3 rfl ?_
    refine lv_astore (lv' := [(4, .ref q9), (0, .ref (ad 0)), (1, .int (nI k)), (2, .int b), (3, .int v)]) hx hb dL_run_20 hl (by decide) rfl (fun ls hl => ?_)
    refine lv_ldc2 (v := -9000000000103) hx hb hown (hts (.constantLong RL 30 (-9000000000103)) (List.mem_append_left _ (by decide +kernel))) dL_run_22 ?_
    exact k_lretT S hr hlk I rfl dL_run_25
  · refine k_VX (Qc := fun _ _ _ _ => True) (q0 := 0) (As := [.int (nI k), .int b, .int v]) (rest := []) (w1 := rgW ad cy C ((dlF C k (gdF C k) b v ((N.1, 0), dpT T)).1.1) ((dlF C k (gdF C k) b v ((N.1, 0), dpT T)).1.2) (rn + 1) X) S I (c_rrunX3 l hfl D cy A ad C N T rn X k hk b v hkd) (cwV 3 hts (gx_V gL_run_X3_run xw_good) rfl rfl rfl (by decide +kernel) ⟨(Nat.le_of_ble_eq_true rfl), (Nat.le_of_ble_eq_true rfl)⟩) rfl rfl rfl rfl hl.1 rfl (Nat.le_of_ble_eq_true rfl) dL_run_4 ⟨(Nat.le_of_ble_eq_true rfl), (Nat.le_of_ble_eq_true rfl)⟩ (fun H locs ce q9 I g1 g2 g3 => ?_)
    refine k_catch (E := "java/lang/ArithmeticException") (tgt := 8) [] ⟨0, 7, 8, 20⟩ [⟨0, 7, 14, 24⟩, ⟨0, 7, 20, 28⟩, ⟨0, 7, 26, 32⟩, ⟨0, 7, 32, 13⟩] S I htab rfl (by decide +kernel) (by decide) (by decide) (List.mem_append_left _ (by decide +kernel)) (by decide +kernel) g1 g2 g3 rfl ?_
    refine lv_astore (lv' := [(4, .ref q9), (0, .ref (ad 0)), (1, .int (nI k)), (2, .int b), (3, .int v)]) hx hb dL_run_8 hl (by decide) rfl (fun ls hl => ?_)
    refine lv_ldc2 (v := -9000000000101) hx hb hown (hts (.constantLong RL 22 (-9000000000101)) (List.mem_append_left _ (by decide +kernel))) dL_run_10 ?_
    exact k_lretT S hr hlk I rfl dL_run_13
  · refine k_VX (Qc := fun _ _ _ _ => True) (q0 := 0) (As := [.int (nI k), .int b, .int v]) (rest := []) (w1 := rgW ad cy C ((dlF C k (gdF C k) b v ((N.1, 0), dpT T)).1.1) ((dlF C k (gdF C k) b v ((N.1, 0), dpT T)).1.2) (rn + 1) X) S I (c_rrunX4 l hfl D cy A ad C N T rn X k hk b v hkd) (cwV 3 hts (gx_V gL_run_X3_run xw_good) rfl rfl rfl (by decide +kernel) ⟨(Nat.le_of_ble_eq_true rfl), (Nat.le_of_ble_eq_true rfl)⟩) rfl rfl rfl rfl hl.1 rfl (Nat.le_of_ble_eq_true rfl) dL_run_4 ⟨(Nat.le_of_ble_eq_true rfl), (Nat.le_of_ble_eq_true rfl)⟩ (fun H locs ce q9 I g1 g2 g3 => ?_)
    refine k_catch (E := Bundle.nN) (tgt := 26) [⟨0, 7, 8, 20⟩, ⟨0, 7, 14, 24⟩, ⟨0, 7, 20, 28⟩] ⟨0, 7, 26, 32⟩ [⟨0, 7, 32, 13⟩] S I htab rfl (by decide +kernel) (by decide) (by decide) (List.mem_append_left _ (by decide +kernel)) (by decide +kernel) g1 g2 g3 rfl ?_
    refine lv_astore (lv' := [(4, .ref q9), (0, .ref (ad 0)), (1, .int (nI k)), (2, .int b), (3, .int v)]) hx hb dL_run_26 hl (by decide) rfl (fun ls hl => ?_)
    refine lv_ldc2 (v := -9000000000104) hx hb hown (hts (.constantLong RL 34 (-9000000000104)) (List.mem_append_left _ (by decide +kernel))) dL_run_28 ?_
    exact k_lretT S hr hlk I rfl dL_run_31
  · refine k_VX (Qc := fun _ _ _ _ => True) (q0 := 0) (As := [.int (nI k), .int b, .int v]) (rest := []) (w1 := rgW ad cy C ((dlF C k (gdF C k) b v ((N.1, 0), dpT T)).1.1) ((dlF C k (gdF C k) b v ((N.1, 0), dpT T)).1.2) (rn + 1) X) S I (c_rrunX5 l hfl D cy A ad C N T rn X k hk b v hkd) (cwV 3 hts (gx_V gL_run_X3_run xw_good) rfl rfl rfl (by decide +kernel) ⟨(Nat.le_of_ble_eq_true rfl), (Nat.le_of_ble_eq_true rfl)⟩) rfl rfl rfl rfl hl.1 rfl (Nat.le_of_ble_eq_true rfl) dL_run_4 ⟨(Nat.le_of_ble_eq_true rfl), (Nat.le_of_ble_eq_true rfl)⟩ (fun H locs ce q9 I g1 g2 g3 => ?_)
    refine k_catch (E := "java/lang/ArrayIndexOutOfBoundsException") (tgt := 32) [⟨0, 7, 8, 20⟩, ⟨0, 7, 14, 24⟩, ⟨0, 7, 20, 28⟩, ⟨0, 7, 26, 32⟩] ⟨0, 7, 32, 13⟩ [] S I htab rfl (by decide +kernel) (by decide) (by decide) (List.mem_append_left _ (by decide +kernel)) (by decide +kernel) g1 g2 g3 rfl ?_
    refine lv_astore (lv' := [(4, .ref q9), (0, .ref (ad 0)), (1, .int (nI k)), (2, .int b), (3, .int v)]) hx hb dL_run_32 hl (by decide) rfl (fun ls hl => ?_)
    refine lv_ldc2 (v := -9000000000105) hx hb hown (hts (.constantLong RL 36 (-9000000000105)) (List.mem_append_left _ (by decide +kernel))) dL_run_34 ?_
    exact k_lretT S hr hlk I rfl dL_run_37
end
section
/-! THE LAW: the claim out of its walk (the skeleton), and what holds at its entry -/
/-! THE CLAIM OUT OF ONE WALK OF THE LAW'S BODY. Your part is whole_start (and what it stands on); all else here is the same for every law, but numbers. -/
def R_law : String := "UnwindRigLaw"
def lw_P (b : Addr) (xs : List Int32) (args : Array Value) (s : State) : Prop := args = #[.ref b] ∧ s.IntsAt b xs ∧ xs.length ≤ 260 ∧ (Jvm.Cond.and given_1 narrow_1).before args s = true
def lw_Q (_ : Array Value) (s : State) (o : Outcome) (t : State) : Prop := o = .returned (some (.int 1)) ∧ Framed s o t [] 668902 7089309
def lw_Z (below : List Frame) (a : Array Value) (s : State) : State → Prop := fun t => ∃ o, t.status = .running ∧ Ended t below o ∧ lw_Q a s o t
/-- the law's own end, with 1 on the stack, nothing written that was there before, its room as the claim has it -/
theorem lw_ret {p : Program} {l : Launch} {e : Env} {s : State} {m : MethodId} {below : List Frame} {meth : Method} {c : Code} {b : Nat} (hx : p.tables.exec = Jvm.exec) (hb : c.code = code) (hr : meth.sig.returnType = ret) (hlocks : meth.locks = false) {pc : Nat} {H : Heap} {ls : Array Slot} (hdg : decode code pc = .ok (.ireturn, 1)) : W p l e room_1 s m #[Value.ref b] below meth c H [] 668902 7089309 (lw_Z below #[Value.ref b] s) (F0 m pc ls [.int 1]) := by
  intro T hT X
  obtain ⟨fs, hret, hrun, hended, hW, hframe⟩ := X.leave (v := some (.int 1)) (hlocks := hlocks) (fun h => by rw [hr] at h; cases h)
  have hmeth' : T.vm.method? m = some meth := X.method'
  refine ⟨T.setFrames fs, ?_, .returned (some (.int 1)), hrun, hended, rfl, ⟨_, rfl⟩, hW, hframe⟩
  jvm_step X.here [X.here.top, hx, hb, hdg, hmeth', hr, ret, narrow_b1]
  (try refine ⟨rfl, ?_⟩); (try refine ⟨rfl, ?_⟩)
  first | (intro acts; rw [hret _ acts rfl rfl rfl]) | rw [hret _ _ rfl rfl rfl]
  exact Steps.refl _
/-- what holds at the law's entry: the machine, the code, the tables' words (any of lw_tbl by 'hts w (by decide +kernel)'), the script of L ints xs at the cell b, what the Statement gives of the start (any of its parts by flat_of_before) -/
def lw_At (p : Program) (s : State) (m : MethodId) (meth : Method) (c : Code) (b L : Nat) (xs : Nat → Int32) : Prop :=
  p.tables.exec = Jvm.exec ∧ c.code = code ∧ meth.sig.returnType = ret ∧ c.maxLocals = 10 ∧ s.vm.findClass R_law = some m.cls ∧ (∀ w ∈ lw_tbl, w.before #[Value.ref b] s = true) ∧ va_X b L xs s s.heap ∧ b < s.heap.size ∧ meth.locks = false ∧ (Jvm.Cond.and given_1 narrow_1).before #[Value.ref b] s = true
/-- the law's words: its own list, and those of the throws -/
def wtL_law : List Cond := wsL_law ++ xwA
theorem xw_in : ∀ w ∈ xwA, w ∈ lw_tbl := by decide +kernel
theorem nw_in : ∀ w ∈ nwl, w ∈ lw_tbl := by decide +kernel
theorem nw_ot : ∀ w ∈ nwl, w.onTables = true := by decide +kernel
theorem wtL_law_in : ∀ w ∈ wtL_law, w ∈ lw_tbl := fun w h => (List.mem_append.mp h).elim (fun h => wsL_law_in w h) (fun h => xw_in w h)
theorem il_X0 : ∀ w ∈ u_ws RX0 TX0 4, w ∈ wtL_law := fun w h => List.mem_append_left _ (inlX0 w h)
theorem il_X1 : ∀ w ∈ u_ws RX1 TX1 2, w ∈ wtL_law := fun w h => List.mem_append_left _ (inlX1 w h)
theorem il_X2 : ∀ w ∈ u_ws RX2 TX2 3, w ∈ wtL_law := fun w h => List.mem_append_left _ (inlX2 w h)
theorem il_X3 : ∀ w ∈ u_ws RX3 TX3 4, w ∈ wtL_law := fun w h => List.mem_append_left _ (inlX3 w h)
theorem la_i (s : State) {args : Array Value} {ty : FieldType} (h : (Cond.arrayClass ty).before args s = true) (h1 : ty = .int ∨ ty = .long) : ∃ cA : ClassId, ArrOfT s cA ty ∧ va_RA s cA ty := by
  obtain ⟨cA, kA, comp, f1, f2, f3⟩ := Cond.arrayClass_spec h
  refine ⟨cA, fun N z => ⟨(fun k h => by cases h), kA, f2, comp, f3⟩, ?_⟩
  rcases h1 with rfl | rfl
  · exact f1
  · exact f1
theorem la_q (s : State) {args : Array Value} {C : String} (h : (Cond.arrayOver (.object C)).before args s = true) : ∃ cA : ClassId, ArrOfT s cA (.object C) ∧ va_RA s cA (.object C) := by
  obtain ⟨comp, cA, kA, f4, -, f2, f3, f1⟩ := Cond.arrayOver_spec h
  exact ⟨cA, fun N z => ⟨(fun k h => by cases h), kA, f2, comp, f3⟩, kA, comp, f2, f3, f4, f1⟩
set_option maxHeartbeats 4000000 in
set_option maxRecDepth 100000 in
/-- what holds at the law's entry, in the words of part 05 -/
theorem law_env {p : Program} {s : State} {m : MethodId} {meth : Method} {c : Code} {b L : Nat} {xs : Nat → Int32} (C0 : lw_At p s m meth c b L xs) : ∃ (D : va_G) (cy : Nat → ClassId), KI D cy (fun q => s.heap.size ≤ q) [] s s.heap [] := by
  obtain ⟨hx, hb, hr, hml, hown, htb, hX, hbl, hlocks, hgv⟩ := C0
  have hts : ∀ w ∈ wtL_law, w.before #[Value.ref b] s = true := fun w h => htb w (wtL_law_in w h)
  have hs := flat_of_before _ hgv
  have hA : ∀ q : Nat, q < s.heap.size → ¬ (fun q : Nat => s.heap.size ≤ q) q := fun q h => Nat.not_le.mpr h
  obtain ⟨c0, i0, n0⟩ := u_known (C := RX0) (T := TX0) (N := 4) (n := 4) hts il_X0 (hts (.instantiable RX0 4) (List.mem_append_left _ (by decide +kernel)))
  obtain ⟨c1, i1, n1⟩ := u_known (C := RX1) (T := TX1) (N := 2) (n := 2) hts il_X1 (hts (.instantiable RX1 2) (List.mem_append_left _ (by decide +kernel)))
  obtain ⟨c2, i2, n2⟩ := u_known (C := RX2) (T := TX2) (N := 3) (n := 3) hts il_X2 (hts (.instantiable RX2 3) (List.mem_append_left _ (by decide +kernel)))
  obtain ⟨c3, i3, n3⟩ := u_known (C := RX3) (T := TX3) (N := 4) (n := 4) hts il_X3 (hts (.instantiable RX3 4) (List.mem_append_left _ (by decide +kernel)))
  have hao : (Cond.arrayOver (.object RX0)).before #[Value.ref b] s = true := htb _ (by decide +kernel)
  obtain ⟨cI, hI⟩ := la_i s (hts (.arrayClass .int) (List.mem_append_left _ (by decide +kernel))) (Or.inl rfl)
  obtain ⟨cQ, hQ⟩ := la_q s hao
  refine ⟨(fun k => match k with | 0 => c0 | 1 => c1 | 2 => c2 | _ => c3, fun k => match k with | 0 => i0 | 1 => i1 | 2 => i2 | _ => i3), fun k => match k with | 0 => cQ | _ => cI, ⟨?_, ?_⟩, ⟨?_, ?_, ?_, ?_, ?_, ?_⟩, fun q h => h, ?_, ?_, va_S.rf⟩
  · intro k q hq
    match k, hq with
    | 0, hq => cases hq; exact n0
    | 1, hq => cases hq; exact n1
    | 2, hq => cases hq; exact n2
    | 3, hq => cases hq; exact n3
    | k + 4, hq => simp [kCl] at hq
  · intro k q hq
    match k, hq with
    | 0, hq => cases hq; exact hQ
    | 1, hq => cases hq; exact hI
    | 2, hq => cases hq; exact hI
    | 3, hq => cases hq; exact hI
    | 4, hq => cases hq; exact hI
    | k + 5, hq => simp [kTy] at hq
  · exact ⟨va_Nw.of rfl (htb _ (by decide +kernel)), va_Nw.of rfl (htb _ (by decide +kernel)), va_Nw.of rfl (htb _ (by decide +kernel)), va_Nw.of rfl (htb _ (by decide +kernel)), va_Nw.of rfl (htb _ (by decide +kernel)), va_Nw.of rfl (htb _ (by decide +kernel))⟩
  · exact ⟨vx_Zqof (htb _ (by decide +kernel)) (htb _ (by decide +kernel)) (hs _ (by decide +kernel)) hA, vx_Zqof (htb _ (by decide +kernel)) (htb _ (by decide +kernel)) (hs _ (by decide +kernel)) hA⟩
  · have go : ∀ (k : Nat) (tx : String), (Cond.stringRef RX3 k tx).before #[Value.ref b] s = true → ∃ a, vk_R RX3 k tx a s := by
      intro k tx h
      obtain ⟨-, -, -, a, -, -, -, -, -, hev⟩ := Cond.stringRef_spec n3.2.1 h
      exact ⟨a, vk_R.of h hev⟩
    exact ⟨go _ _ (htb _ (by decide +kernel)), go _ _ (htb _ (by decide +kernel)), go _ _ (htb _ (by decide +kernel)), go _ _ (htb _ (by decide +kernel)), go _ _ (htb _ (by decide +kernel)), go _ _ (htb _ (by decide +kernel)), go _ _ (htb _ (by decide +kernel)), go _ _ (htb _ (by decide +kernel))⟩
  · exact fun w hw => va_Nw.of (nw_ot w hw) (htb w (nw_in w hw))
  · intro q hq
    refine va_Nc.of (args := #[Value.ref b]) (hs _ ?_)
    revert q
    decide +kernel
  · exact ⟨va_Nw.of rfl (htb _ (by decide +kernel)), va_Nw.of rfl (htb _ (by decide +kernel)), va_Nw.of rfl (htb _ (by decide +kernel)), va_AO.of hao⟩
  · exact fun k q h => by simp at h
  · exact ⟨fun i j p q h => by simp at h, fun k q h => by simp at h⟩
end
section
/-! THE LAW: its loops and its walk, laid by wip/p7/law7.py -/
/-- an element of the law's script -/
theorem k_scr {p : Program} {l : Launch} {e : Env} {R : Room} {s : State} {m : MethodId} {args : Array Value} {below : List Frame} {meth : Method} {c : Code} {H : Heap} {locs : List Loc} {cells slots : Nat} {Q : State → Prop} {cc : ByteArray} {nL : Nat} {Ts : List Cond} {own : String} {D : va_G} {cy : Nat → ClassId} {ww : va_W} {pc : Nat} {ls : Array Slot} {rest : List Value}
    {b L j : Nat} {xs : Nat → Int32} {i x : Int32} (S : CallFix p m c cc nL s args Ts own) (I : KI D cy (fun q => s.heap.size ≤ q) ww s H locs) (hX : va_X b L xs s s.heap) (hbl : b < s.heap.size) (hL : L < 2 ^ 31) (hi : i = nI j) (hj : j < L) (hx : xs j = x) (d : decode cc pc = .ok (.iaload, 1))
    (kk : W p l e R s m args below meth c H locs cells slots Q (F0 m (pc + 1) ls (.int x :: rest))) : W p l e R s m args below meth c H locs cells slots Q (F0 m pc ls (.int i :: .ref b :: rest)) := by
  subst hi; subst hx
  refine va_sld S.1 S.2.1 hX hbl (Nat.not_le.mpr hbl) I.2.2.2.2.2 (vp_in_nI hj hL) d ?_
  rw [nI_clamp (by omega)]
  exact kk
theorem dv4 : ∀ q : Nat, q < 6 → nI (4 * q) / 4 = nI q := by decide +kernel
theorem nI_m1 (d : Nat) : nI (d + 1) + Int32.ofInt (-1) = nI d := (show nI (d + 1) + Int32.ofInt (-1) = nI (d + 1) - 1 from (Int32.sub_eq_add_neg (nI (d + 1)) 1).symm).trans (nI_pred d)
theorem cnF_0 (N : rN) (T : rT) (rn : Int32) : cnF N T rn 0 = nI N.2 := if_pos rfl
theorem cnF_1 (N : rN) (T : rT) (rn : Int32) : cnF N T rn 1 = rn := (if_neg (by decide)).trans (if_pos rfl)
theorem n600 : ∀ c : Nat, c < 6 → ¬ 600 + nI c < 0 ∧ 6 ≤ 600 + nI c ∧ ¬ 600 + nI c < 600 ∧ ¬ 606 ≤ 600 + nI c := by decide +kernel
set_option maxHeartbeats 40000000 in
set_option maxRecDepth 100000 in
/-- the settings, at most six -/
theorem law_sets {p : Program} {e : Env} {s : State} {m : MethodId} {below : List Frame} {meth : Method} {c : Code} (l : Launch) (hfl : l.stackTraces = false) {b L : Nat} {xs : Nat → Int32} (hL : L ≤ 260) (S : CallFix p m c cL_law 10 s #[Value.ref b] wtL_law RL) (hX : va_X b L xs s s.heap) (hbl : b < s.heap.size) (D : va_G) (cy : Nat → ClassId) (ad : Nat → Nat) {Q : State → Prop}
    (hk : ∀ (C : rC) (H : Heap) (locs : List Loc), KI D cy (fun q => s.heap.size ≤ q) (rgW ad cy C rN0 rT0 0 []) s H locs → ∀ ls : Array Slot, lv_has ls 10 [(1, .ref (ad 0)), (0, .ref b)] → W p l e room_1 s m #[Value.ref b] below meth c H locs 20 200 Q (F0 m 66 ls [])) :
    ∀ (n q : Nat), q ≤ 6 → 6 < q + n → ∀ (C : rC) (H : Heap) (locs : List Loc), KI D cy (fun q => s.heap.size ≤ q) (rgW ad cy C rN0 rT0 0 []) s H locs → ∀ ls : Array Slot, lv_has ls 10 [(2, .int (nI (4 * q))), (1, .ref (ad 0)), (0, .ref b)] → W p l e room_1 s m #[Value.ref b] below meth c H locs 20 200 Q (F0 m 10 ls []) := by
  obtain ⟨hx, hb, hml, hown, hts⟩ := id S
  intro n
  induction n with
  | zero => intro q h1 h2; exact absurd h2 (by omega)
  | succ n ih =>
    intro q hq0 hq1 C H locs I ls hl
    refine lv_iload_n hx hb dL_law_10 rfl (lv_at hl 0 rfl) ?_
    refine lv_iconst (v := 4) hx hb dL_law_11 (by decide) ?_
    refine lv_iadd hx hb dL_law_12 ?_
    refine W.eq (congrArg (fun z => F0 m 13 ls (.int z :: [])) (nI_add (4 * q) 4)) ?_
    refine lv_aload_n hx hb dL_law_13 rfl (lv_at hl 2 rfl) ?_
    refine va_slen hx hb hX hbl (Nat.not_le.mpr hbl) I.2.2.2.2.2 dL_law_14 ?_
    refine lv_icmp_gt (tgt := 66) hx hb dL_law_15 (by decide) (fun c_15 => ?_) (fun c_15 => ?_)
    · exact hk C _ _ I ls (lv_sub hl [1, 2] rfl)
    · have h4 : 4 * q + 4 ≤ L := Nat.not_lt.mp (fun h => c_15 (nI_lt h (by omega)))
      refine lv_iload_n hx hb dL_law_18 rfl (lv_at hl 0 rfl) ?_
      refine lv_bipush (v := 24) hx hb dL_law_19 (by decide) ?_
      refine lv_icmp_ge (tgt := 66) hx hb dL_law_21 (by decide) (fun c_21 => ?_) (fun c_21 => ?_)
      · exact hk C _ _ I ls (lv_sub hl [1, 2] rfl)
      · have hq : q < 6 := Nat.lt_of_not_le (fun h => c_21 (show nI 24 ≤ nI (4 * q) from nI_le (by omega) (by omega)))
        refine lv_aload_n hx hb dL_law_24 rfl (lv_at hl 1 rfl) ?_
        refine lv_iload_n hx hb dL_law_25 rfl (lv_at hl 0 rfl) ?_
        refine lv_iconst (v := 4) hx hb dL_law_26 (by decide) ?_
        refine lv_idiv hx hb dL_law_27 (by decide) ?_
        refine W.eq (congrArg (fun z => F0 m 28 ls (.int z :: [.ref (ad 0)])) (dv4 q hq)) ?_
        refine lv_aload_n hx hb dL_law_28 rfl (lv_at hl 2 rfl) ?_
        refine lv_iload_n hx hb dL_law_29 rfl (lv_at hl 0 rfl) ?_
        refine k_scr (j := 4 * q) (x := xs (4 * q)) S I hX hbl (by omega) rfl (by omega) rfl dL_law_30 ?_
        refine lv_aload_n hx hb dL_law_31 rfl (lv_at hl 2 rfl) ?_
        refine lv_iload_n hx hb dL_law_32 rfl (lv_at hl 0 rfl) ?_
        refine lv_iconst (v := 1) hx hb dL_law_33 (by decide) ?_
        refine lv_iadd hx hb dL_law_34 ?_
        refine k_scr (j := 4 * q + 1) (x := xs (4 * q + 1)) S I hX hbl (by omega) (nI_add (4 * q) 1) (by omega) rfl dL_law_35 ?_
        refine lv_bipush (v := 7) hx hb dL_law_36 (by decide) ?_
        refine lv_iand hx hb dL_law_38 ?_
        refine lv_iconst (v := 1) hx hb dL_law_39 (by decide) ?_
        refine lv_isub hx hb dL_law_40 ?_
        refine lv_aload_n hx hb dL_law_41 rfl (lv_at hl 2 rfl) ?_
        refine lv_iload_n hx hb dL_law_42 rfl (lv_at hl 0 rfl) ?_
        refine lv_iconst (v := 2) hx hb dL_law_43 (by decide) ?_
        refine lv_iadd hx hb dL_law_44 ?_
        refine k_scr (j := 4 * q + 2) (x := xs (4 * q + 2)) S I hX hbl (by omega) (nI_add (4 * q) 2) (by omega) rfl dL_law_45 ?_
        refine lv_bipush (v := 7) hx hb dL_law_46 (by decide) ?_
        refine lv_iand hx hb dL_law_48 ?_
        refine lv_iconst (v := 1) hx hb dL_law_49 (by decide) ?_
        refine lv_isub hx hb dL_law_50 ?_
        refine lv_aload_n hx hb dL_law_51 rfl (lv_at hl 2 rfl) ?_
        refine lv_iload_n hx hb dL_law_52 rfl (lv_at hl 0 rfl) ?_
        refine lv_iconst (v := 3) hx hb dL_law_53 (by decide) ?_
        refine lv_iadd hx hb dL_law_54 ?_
        refine k_scr (j := 4 * q + 3) (x := xs (4 * q + 3)) S I hX hbl (by omega) (nI_add (4 * q) 3) (by omega) rfl dL_law_55 ?_
        refine k_SWi (As := [.ref (ad 0), .int (nI q), .int (xs (4 * q)), .int (((xs (4 * q + 1)) &&& 7) - 1), .int (((xs (4 * q + 2)) &&& 7) - 1), .int (xs (4 * q + 3))]) (rest := []) (w1 := rgW ad cy (upd C.1 q (xs (4 * q)), upd C.2.1 q ((xs (4 * q + 1) &&& 7) - 1), upd C.2.2.1 q ((xs (4 * q + 2) &&& 7) - 1), upd C.2.2.2 q (xs (4 * q + 3))) rN0 rT0 0 []) (G := (C.2.2.2 q)) S I (c_Lset l hfl D cy _ ad C rN0 rT0 0 [] q hq (xs (4 * q)) ((xs (4 * q + 1) &&& 7) - 1) ((xs (4 * q + 2) &&& 7) - 1) (xs (4 * q + 3))) (vx_cwSW 6 hts (gx_L gL_law_L_set) rfl rfl rfl (by decide +kernel) ⟨(Nat.le_of_ble_eq_true rfl), (Nat.le_of_ble_eq_true rfl)⟩) rfl hl.1 rfl (Nat.le_of_ble_eq_true rfl) dL_law_56 ⟨(Nat.le_of_ble_eq_true rfl), (Nat.le_of_ble_eq_true rfl)⟩ (fun H locs I => ?_)
        refine lv_pop hx hb dL_law_59 rfl ?_
        refine lv_iinc (v := (nI (4 * (q + 1)))) (lv' := [(2, .int (nI (4 * (q + 1)))), (1, .ref (ad 0)), (0, .ref b)]) hx hb dL_law_60 hl (k := 0) rfl (nI_add (4 * q) 4) (by decide) rfl (fun ls hl => ?_)
        refine lv_goto (tgt := 10) hx hb dL_law_63 (by decide) ?_
        exact ih (q + 1) (by omega) (by omega) _ _ _ I ls (lv_sub hl [0, 1, 2] rfl)
/-- where the scan stands: d levels are open, the highest k, in the law's row op; what the notes from j on still do -/
def scI (k : Nat) (rest : List Int32) (j d : Nat) (f : Int32) (op : Nat → Int32) : Prop := (∀ t : Nat, t < d → op t = nI (k - t)) ∧ ((j = 0 ∧ d = 0 ∧ f = 1) ∨ (f = 0 ∧ ∃ (c j' : Nat), j = j' + 1 ∧ d + c = k + 1 ∧ bkN k (rest.drop j') c (k + 1)))
theorem scI_end {k : Nat} {rest : List Int32} {j d : Nat} {f : Int32} {op : Nat → Int32} (h : scI k rest j d f op) (hj : j = rest.length + 1) : d = 0 := by
  obtain ⟨-, h | ⟨-, c, j', e1, e2, h⟩⟩ := h
  · exact h.2.1
  · have e : j' = rest.length := by omega
    subst e
    rw [List.drop_length] at h
    have h : c = k + 1 := h
    omega
theorem bkN_top {k c : Nat} {L : List Int32} (h : bkN k L c (k + 1)) (hc : k < c) : L = [] := by
  cases L with
  | nil => rfl
  | cons x L => exact absurd h.1 (by omega)
set_option maxHeartbeats 40000000 in
set_option maxRecDepth 100000 in
/-- THE SCAN of a run's notes -/
theorem law_scan {p : Program} {e : Env} {s : State} {m : MethodId} {below : List Frame} {meth : Method} {c : Code} (l : Launch) (hfl : l.stackTraces = false) {b L : Nat} {xs : Nat → Int32} (hL : L ≤ 260) (S : CallFix p m c cL_law 10 s #[Value.ref b] wtL_law RL) (hX : va_X b L xs s s.heap) (hbl : b < s.heap.size) (D : va_G) (cy : Nat → ClassId) (ad : Nat → Nat) (od : Nat) {Q : State → Prop} {C : rC} {N : rN} {T : rT} {rn : Int32} {i k : Nat} (hk : k < 6) {rest : List Int32} (hN5 : N.2 < 99000) (hlen : N.2 = rest.length + 1) (hat : ∀ (j : Nat) (x : Int32), (nI k :: rest)[j]? = some x → j < 64 → N.1 j = x) (hbk : bkN k rest k (k + 1)) {K1 K2 : Nat} (hK1 : K1 ≤ 668902) (hK2 : K2 ≤ 7089309)
    (hend : ∀ (d : Nat) (op : Nat → Int32) (H : Heap) (locs : List Loc), KI D cy (fun q => s.heap.size ≤ q) (rgW ad cy C N T rn ([(od, .inl (cy 4, 64, .inl op))])) s H locs → (N.2 ≤ 64 → d = 0) → ∀ ls : Array Slot, lv_has ls 10 [(6, .int (nI d)), (5, .int (nI N.2)), (3, .int (nI i)), (2, .ref od), (1, .ref (ad 0)), (0, .ref b)] → W p l e room_1 s m #[Value.ref b] below meth c H locs K1 K2 Q (F0 m 317 ls [])) :
    ∀ (n j : Nat), j ≤ N.2 → j ≤ 64 → 64 < j + n → ∀ (d : Nat) (f : Int32) (op : Nat → Int32), scI k rest j d f op → ∀ (H : Heap) (locs : List Loc), KI D cy (fun q => s.heap.size ≤ q) (rgW ad cy C N T rn ([(od, .inl (cy 4, 64, .inl op))])) s H locs → ∀ ls : Array Slot, lv_has ls 10 [(8, .int (nI j)), (7, .int f), (6, .int (nI d)), (5, .int (nI N.2)), (4, .int (nI k)), (3, .int (nI i)), (2, .ref od), (1, .ref (ad 0)), (0, .ref b)] → W p l e room_1 s m #[Value.ref b] below meth c H locs K1 K2 Q (F0 m 148 ls []) := by
  obtain ⟨hx, hb, hml, hown, hts⟩ := id S
  intro n
  induction n with
  | zero => intro j h1 h2 h3; exact absurd h3 (by omega)
  | succ n ih =>
    intro j hj0 hj1 hj2 d f op hs H locs I ls hl
    refine lv_iload hx hb dL_law_148 (lv_at hl 0 rfl) ?_
    refine lv_iload hx hb dL_law_150 (lv_at hl 3 rfl) ?_
    refine lv_icmp_ge (tgt := 317) hx hb dL_law_152 (by decide) (fun c_152 => ?_) (fun c_152 => ?_)
    · exact hend d op _ _ I (fun _ => scI_end hs (show j = rest.length + 1 from by have := (nI_leI (by omega) (by omega)).mp c_152; omega)) ls (lv_sub hl [2, 3, 5, 6, 7, 8] rfl)
    · have hj : j < N.2 := Nat.lt_of_not_le (fun h => c_152 (nI_le h (by omega)))
      refine lv_iload hx hb dL_law_155 (lv_at hl 0 rfl) ?_
      refine lv_bipush (v := 64) hx hb dL_law_157 (by decide) ?_
      refine lv_icmp_ge (tgt := 317) hx hb dL_law_159 (by decide) (fun c_159 => ?_) (fun c_159 => ?_)
      · exact hend d op _ _ I (fun h => absurd ((nI_leI (a := 64) (b := j) (by decide) (by omega)).mp c_159) (by omega)) ls (lv_sub hl [2, 3, 5, 6, 7, 8] rfl)
      · have hj6 : j < 64 := Nat.lt_of_not_le (fun h => c_159 (show nI 64 ≤ nI j from nI_le h (by omega)))
        refine lv_aload_n hx hb dL_law_162 rfl (lv_at hl 7 rfl) ?_
        refine lv_iload hx hb dL_law_163 (lv_at hl 0 rfl) ?_
        refine k_SWi (As := [.ref (ad 0), .int (nI j)]) (rest := []) (w1 := rgW ad cy C N T rn ([(od, .inl (cy 4, 64, .inl op))])) (G := (N.1 j)) S I (c_Lnote1 l hfl D cy _ ad C N T rn [(od, .inl (cy 4, 64, .inl op))] (by omega) j hj hj6) (vx_cwSW 2 hts (gx_L gL_law_L_note) rfl rfl rfl (by decide +kernel) ⟨(Nat.le_of_ble_eq_true rfl), (Nat.le_of_ble_eq_true rfl)⟩) rfl hl.1 rfl (Nat.le_of_ble_eq_true rfl) dL_law_165 ⟨hK1, hK2⟩ (fun H locs I => ?_)
        refine lv_istore (lv' := [(9, .int (N.1 j)), (8, .int (nI j)), (7, .int f), (6, .int (nI d)), (5, .int (nI N.2)), (4, .int (nI k)), (3, .int (nI i)), (2, .ref od), (1, .ref (ad 0)), (0, .ref b)]) hx hb dL_law_168 hl (by decide) rfl (fun ls hl => ?_)
        have tail : ∀ (d : Nat) (f : Int32) (op : Nat → Int32) (H : Heap) (locs : List Loc), KI D cy (fun q => s.heap.size ≤ q) (rgW ad cy C N T rn ([(od, .inl (cy 4, 64, .inl op))])) s H locs → scI k rest (j + 1) d f op → ∀ ls : Array Slot, lv_has ls 10 [(8, .int (nI j)), (7, .int f), (6, .int (nI d)), (5, .int (nI N.2)), (4, .int (nI k)), (3, .int (nI i)), (2, .ref od), (1, .ref (ad 0)), (0, .ref b)] → W p l e room_1 s m #[Value.ref b] below meth c H locs K1 K2 Q (F0 m 311 ls []) := by
          intro d f op H locs I hs ls hl
          refine lv_iinc (v := (nI (j + 1))) (lv' := [(8, .int (nI (j + 1))), (7, .int f), (6, .int (nI d)), (5, .int (nI N.2)), (4, .int (nI k)), (3, .int (nI i)), (2, .ref od), (1, .ref (ad 0)), (0, .ref b)]) hx hb dL_law_311 hl (k := 0) rfl (nI_add j 1) (by decide) rfl (fun ls hl => ?_)
          refine lv_goto (tgt := 148) hx hb dL_law_314 (by decide) ?_
          exact ih (j + 1) (by omega) (by omega) (by omega) d f op hs _ _ I ls (lv_sub hl [0, 1, 2, 3, 4, 5, 6, 7, 8] rfl)
        obtain ⟨hop, ⟨rfl, rfl, rfl⟩ | ⟨rfl, c, j', ej, ed, hbj⟩⟩ := hs
        · have e9 : N.1 0 = nI k := hat 0 (nI k) rfl (by decide)
          rw [e9] at hl
          refine lv_iload hx hb dL_law_170 (lv_at hl 0 rfl) ?_
          refine lv_if_lt (tgt := 232) hx hb dL_law_172 (by decide) (fun c_172 => ?_) (fun c_172 => ?_)
          · exact absurd c_172 (nI_pos (by omega))
          · refine lv_iload hx hb dL_law_175 (lv_at hl 0 rfl) ?_
            refine lv_bipush (v := 6) hx hb dL_law_177 (by decide) ?_
            refine lv_icmp_ge (tgt := 232) hx hb dL_law_179 (by decide) (fun c_179 => ?_) (fun c_179 => ?_)
            · exact absurd c_179 (show ¬ (6 : Int32) ≤ nI k from nI_ge (b := 6) hk (by decide))
            · refine lv_iload hx hb dL_law_182 (lv_at hl 2 rfl) ?_
              refine lv_if_eq (tgt := 197) hx hb dL_law_184 (by decide) (fun c_184 => ?_) (fun c_184 => ?_)
              · exact absurd c_184 (by decide)
              · refine lv_iload hx hb dL_law_187 (lv_at hl 0 rfl) ?_
                refine lv_iload hx hb dL_law_189 (lv_at hl 5 rfl) ?_
                refine lv_icmp_eq (tgt := 217) hx hb dL_law_191 (by decide) (fun c_191 => ?_) (fun c_191 => ?_)
                · refine lv_aload_n hx hb dL_law_217 rfl (lv_at hl 7 rfl) ?_
                  refine lv_iload hx hb dL_law_218 (lv_at hl 3 rfl) ?_
                  refine lv_iload hx hb dL_law_220 (lv_at hl 0 rfl) ?_
                  refine k_iast (q0 := 13) (t0 := 4) (j := 0) (w1 := rgW ad cy C N T rn ([(od, .inl (cy 4, 64, .inl (upd op 0 (nI k))))])) S I rfl rfl (by decide) (by decide) rfl rfl dL_law_222 (fun H locs I => ?_)
                  refine lv_iinc (v := (nI 1)) (lv' := [(6, .int (nI 1)), (9, .int (nI k)), (8, .int (nI 0)), (7, .int 1), (5, .int (nI N.2)), (4, .int (nI k)), (3, .int (nI i)), (2, .ref od), (1, .ref (ad 0)), (0, .ref b)]) hx hb dL_law_223 hl (k := 3) rfl (nI_add 0 1) (by decide) rfl (fun ls hl => ?_)
                  refine lv_iconst (v := 0) hx hb dL_law_226 (by decide) ?_
                  refine lv_istore (lv' := [(7, .int 0), (6, .int (nI 1)), (9, .int (nI k)), (8, .int (nI 0)), (5, .int (nI N.2)), (4, .int (nI k)), (3, .int (nI i)), (2, .ref od), (1, .ref (ad 0)), (0, .ref b)]) hx hb dL_law_227 hl (by decide) rfl (fun ls hl => ?_)
                  refine lv_goto (tgt := 311) hx hb dL_law_229 (by decide) ?_
                  have hs1 : scI k rest (0 + 1) 1 0 (upd op 0 (nI k)) := ⟨fun t ht => by have e : t = 0 := (by omega); subst e; exact pk_us, Or.inr ⟨rfl, k, 0, rfl, by omega, hbk⟩⟩
                  exact tail 1 0 (upd op 0 (nI k)) _ _ I hs1 ls (lv_sub hl [3, 0, 1, 4, 5, 6, 7, 8, 9] rfl)
                · exact absurd rfl c_191
        · subst ej
          have hj9 : j' < rest.length := by omega
          obtain ⟨x, L9, e9⟩ : ∃ (x : Int32) (L9 : List Int32), rest.drop j' = x :: L9 := ⟨_, _, List.drop_eq_getElem_cons hj9⟩
          have eL : rest.drop (j' + 1) = L9 := by
            have h := congrArg List.tail e9
            rwa [List.tail_drop] at h
          have ex : N.1 (j' + 1) = x := by
            refine hat (j' + 1) x ?_ hj6
            rw [List.getElem?_cons_succ, ← List.head?_drop, e9]
            rfl
          rw [ex] at hl
          rw [e9] at hbj
          obtain ⟨hck, hbj⟩ := hbj
          obtain ⟨d, rfl⟩ : ∃ d0 : Nat, d = d0 + 1 := ⟨d - 1, by omega⟩
          rcases hbj with ⟨c, rfl, rfl, hb9⟩ | ⟨rfl, hb9⟩ | ⟨ho, hb9⟩
          · refine lv_iload hx hb dL_law_170 (lv_at hl 0 rfl) ?_
            refine lv_if_lt (tgt := 232) hx hb dL_law_172 (by decide) (fun c_172 => ?_) (fun c_172 => ?_)
            · exact absurd c_172 (nI_pos (by omega))
            · refine lv_iload hx hb dL_law_175 (lv_at hl 0 rfl) ?_
              refine lv_bipush (v := 6) hx hb dL_law_177 (by decide) ?_
              refine lv_icmp_ge (tgt := 232) hx hb dL_law_179 (by decide) (fun c_179 => ?_) (fun c_179 => ?_)
              · exact absurd c_179 (show ¬ (6 : Int32) ≤ nI c from nI_ge (b := 6) (by omega) (by decide))
              · refine lv_iload hx hb dL_law_182 (lv_at hl 2 rfl) ?_
                refine lv_if_eq (tgt := 197) hx hb dL_law_184 (by decide) (fun c_184 => ?_) (fun c_184 => ?_)
                · refine lv_iload hx hb dL_law_197 (lv_at hl 3 rfl) ?_
                  refine lv_if_eq (tgt := 215) hx hb dL_law_199 (by decide) (fun c_199 => ?_) (fun c_199 => ?_)
                  · exact absurd c_199 (nI_ne0 (by omega) (by omega))
                  · refine lv_iload hx hb dL_law_202 (lv_at hl 0 rfl) ?_
                    refine lv_aload_n hx hb dL_law_204 rfl (lv_at hl 7 rfl) ?_
                    refine lv_iload hx hb dL_law_205 (lv_at hl 3 rfl) ?_
                    refine lv_iconst (v := 1) hx hb dL_law_207 (by decide) ?_
                    refine lv_isub hx hb dL_law_208 ?_
                    refine W.eq (congrArg (fun z => F0 m 209 ls (.int z :: [.ref od, .int (nI c)])) (nI_pred d)) ?_
                    refine k_iald (q0 := 13) (t0 := 4) (j := d) (x := nI (c + 1)) S I rfl rfl (by omega) (by decide) rfl ((hop d (by omega)).trans (congrArg nI (by omega))) dL_law_209 ?_
                    refine lv_iconst (v := 1) hx hb dL_law_210 (by decide) ?_
                    refine lv_isub hx hb dL_law_211 ?_
                    refine W.eq (congrArg (fun z => F0 m 212 ls (.int z :: [.int (nI c)])) (nI_pred c)) ?_
                    refine lv_icmp_eq (tgt := 217) hx hb dL_law_212 (by decide) (fun c_212 => ?_) (fun c_212 => ?_)
                    · refine lv_aload_n hx hb dL_law_217 rfl (lv_at hl 7 rfl) ?_
                      refine lv_iload hx hb dL_law_218 (lv_at hl 3 rfl) ?_
                      refine lv_iload hx hb dL_law_220 (lv_at hl 0 rfl) ?_
                      refine k_iast (q0 := 13) (t0 := 4) (j := d + 1) (w1 := rgW ad cy C N T rn ([(od, .inl (cy 4, 64, .inl (upd op (d + 1) (nI c))))])) S I rfl rfl (by omega) (by decide) rfl rfl dL_law_222 (fun H locs I => ?_)
                      refine lv_iinc (v := (nI (d + 1 + 1))) (lv' := [(6, .int (nI (d + 1 + 1))), (9, .int (nI c)), (8, .int (nI (j' + 1))), (7, .int 0), (5, .int (nI N.2)), (4, .int (nI k)), (3, .int (nI i)), (2, .ref od), (1, .ref (ad 0)), (0, .ref b)]) hx hb dL_law_223 hl (k := 3) rfl (nI_add (d + 1) 1) (by decide) rfl (fun ls hl => ?_)
                      refine lv_iconst (v := 0) hx hb dL_law_226 (by decide) ?_
                      refine lv_istore (lv' := [(7, .int 0), (6, .int (nI (d + 1 + 1))), (9, .int (nI c)), (8, .int (nI (j' + 1))), (5, .int (nI N.2)), (4, .int (nI k)), (3, .int (nI i)), (2, .ref od), (1, .ref (ad 0)), (0, .ref b)]) hx hb dL_law_227 hl (by decide) rfl (fun ls hl => ?_)
                      refine lv_goto (tgt := 311) hx hb dL_law_229 (by decide) ?_
                      have hs1 : scI k rest (j' + 1 + 1) (d + 1 + 1) 0 (upd op (d + 1) (nI c)) := by
                        refine ⟨fun t ht => ?_, Or.inr ⟨rfl, c, j' + 1, rfl, by omega, eL ▸ hb9⟩⟩
                        by_cases ht9 : t = d + 1
                        · subst ht9; exact pk_us.trans (congrArg nI (by omega))
                        · exact (pk_un ht9).trans (hop t (by omega))
                      exact tail (d + 1 + 1) 0 (upd op (d + 1) (nI c)) _ _ I hs1 ls (lv_sub hl [3, 0, 1, 4, 5, 6, 7, 8, 9] rfl)
                    · exact absurd rfl c_212
                · exact absurd rfl c_184
          · obtain ⟨q1, q2, q3, q4⟩ := n600 c (by omega)
            refine lv_iload hx hb dL_law_170 (lv_at hl 0 rfl) ?_
            refine lv_if_lt (tgt := 232) hx hb dL_law_172 (by decide) (fun c_172 => ?_) (fun c_172 => ?_)
            · exact absurd c_172 q1
            · refine lv_iload hx hb dL_law_175 (lv_at hl 0 rfl) ?_
              refine lv_bipush (v := 6) hx hb dL_law_177 (by decide) ?_
              refine lv_icmp_ge (tgt := 232) hx hb dL_law_179 (by decide) (fun c_179 => ?_) (fun c_179 => ?_)
              · refine lv_iload hx hb dL_law_232 (lv_at hl 0 rfl) ?_
                refine lv_sipush (v := 600) hx hb dL_law_234 (by decide) ?_
                refine lv_icmp_lt (tgt := 311) hx hb dL_law_237 (by decide) (fun c_237 => ?_) (fun c_237 => ?_)
                · exact absurd c_237 q3
                · refine lv_iload hx hb dL_law_240 (lv_at hl 0 rfl) ?_
                  refine lv_sipush (v := 606) hx hb dL_law_242 (by decide) ?_
                  refine lv_icmp_ge (tgt := 311) hx hb dL_law_245 (by decide) (fun c_245 => ?_) (fun c_245 => ?_)
                  · exact absurd c_245 q4
                  · refine lv_iload hx hb dL_law_248 (lv_at hl 3 rfl) ?_
                    refine lv_if_le (tgt := 311) hx hb dL_law_250 (by decide) (fun c_250 => ?_) (fun c_250 => ?_)
                    · exact absurd c_250 (nI_nle (by omega) (by omega))
                    · refine lv_iload hx hb dL_law_253 (lv_at hl 0 rfl) ?_
                      refine lv_sipush (v := 600) hx hb dL_law_255 (by decide) ?_
                      refine lv_aload_n hx hb dL_law_258 rfl (lv_at hl 7 rfl) ?_
                      refine lv_iload hx hb dL_law_259 (lv_at hl 3 rfl) ?_
                      refine lv_iconst (v := 1) hx hb dL_law_261 (by decide) ?_
                      refine lv_isub hx hb dL_law_262 ?_
                      refine W.eq (congrArg (fun z => F0 m 263 ls (.int z :: [.ref od, .int 600, .int (600 + nI c)])) (nI_pred d)) ?_
                      refine k_iald (q0 := 13) (t0 := 4) (j := d) (x := nI c) S I rfl rfl (by omega) (by decide) rfl ((hop d (by omega)).trans (congrArg nI (by omega))) dL_law_263 ?_
                      refine lv_iadd hx hb dL_law_264 ?_
                      refine lv_icmp_ne (tgt := 311) hx hb dL_law_265 (by decide) (fun c_265 => ?_) (fun c_265 => ?_)
                      · exact absurd rfl c_265
                      · refine lv_iinc (v := (nI d)) (lv' := [(6, .int (nI d)), (9, .int (600 + nI c)), (8, .int (nI (j' + 1))), (7, .int 0), (5, .int (nI N.2)), (4, .int (nI k)), (3, .int (nI i)), (2, .ref od), (1, .ref (ad 0)), (0, .ref b)]) hx hb dL_law_268 hl (k := 3) rfl (nI_m1 d) (by decide) rfl (fun ls hl => ?_)
                        refine lv_iload hx hb dL_law_271 (lv_at hl 0 rfl) ?_
                        refine lv_if_ne (tgt := 311) hx hb dL_law_273 (by decide) (fun c_273 => ?_) (fun c_273 => ?_)
                        · have hs1 : scI k rest (j' + 1 + 1) d 0 op := ⟨fun t ht => hop t (by omega), Or.inr ⟨rfl, c + 1, j' + 1, rfl, by omega, eL ▸ hb9⟩⟩
                          exact tail (d) 0 op _ _ I hs1 ls (lv_sub hl [2, 3, 0, 4, 5, 6, 7, 8, 9] rfl)
                        · have hd0 : d = 0 := Decidable.byContradiction (fun h => nI_ne0 (Nat.pos_of_ne_zero h) (by omega) c_273)
                          have hL9 : L9 = [] := bkN_top hb9 (by omega)
                          have hN9 : N.2 ≤ j' + 1 + 1 := by
                            rw [hlen]
                            have h9 := congrArg List.length e9
                            rw [hL9, List.length_drop, List.length_singleton] at h9
                            omega
                          refine lv_iload hx hb dL_law_276 (lv_at hl 2 rfl) ?_
                          refine lv_iconst (v := 1) hx hb dL_law_278 (by decide) ?_
                          refine lv_iadd hx hb dL_law_279 ?_
                          refine W.eq (congrArg (fun z => F0 m 280 ls (.int z :: [])) (nI_add (j' + 1) 1)) ?_
                          refine lv_iload hx hb dL_law_280 (lv_at hl 4 rfl) ?_
                          refine lv_icmp_ge (tgt := 311) hx hb dL_law_282 (by decide) (fun c_282 => ?_) (fun c_282 => ?_)
                          · have hs1 : scI k rest (j' + 1 + 1) d 0 op := ⟨fun t ht => hop t (by omega), Or.inr ⟨rfl, c + 1, j' + 1, rfl, by omega, eL ▸ hb9⟩⟩
                            exact tail (d) 0 op _ _ I hs1 ls (lv_sub hl [2, 3, 0, 4, 5, 6, 7, 8, 9] rfl)
                          · exact absurd (nI_le hN9 (by omega)) c_282
              · exact absurd q2 c_179
          · refine lv_iload hx hb dL_law_170 (lv_at hl 0 rfl) ?_
            refine lv_if_lt (tgt := 232) hx hb dL_law_172 (by decide) (fun c_172 => ?_) (fun c_172 => ?_)
            · refine lv_iload hx hb dL_law_232 (lv_at hl 0 rfl) ?_
              refine lv_sipush (v := 600) hx hb dL_law_234 (by decide) ?_
              refine lv_icmp_lt (tgt := 311) hx hb dL_law_237 (by decide) (fun c_237 => ?_) (fun c_237 => ?_)
              · have hs1 : scI k rest (j' + 1 + 1) (d + 1) 0 op := ⟨hop, Or.inr ⟨rfl, c, j' + 1, rfl, ed, eL ▸ hb9⟩⟩
                exact tail (d + 1) 0 op _ _ I hs1 ls (lv_sub hl [1, 2, 3, 4, 5, 6, 7, 8, 9] rfl)
              · exact absurd (Int32.lt_trans c_172 (by decide)) c_237
            · refine lv_iload hx hb dL_law_175 (lv_at hl 0 rfl) ?_
              refine lv_bipush (v := 6) hx hb dL_law_177 (by decide) ?_
              refine lv_icmp_ge (tgt := 232) hx hb dL_law_179 (by decide) (fun c_179 => ?_) (fun c_179 => ?_)
              · refine lv_iload hx hb dL_law_232 (lv_at hl 0 rfl) ?_
                refine lv_sipush (v := 600) hx hb dL_law_234 (by decide) ?_
                refine lv_icmp_lt (tgt := 311) hx hb dL_law_237 (by decide) (fun c_237 => ?_) (fun c_237 => ?_)
                · have hs1 : scI k rest (j' + 1 + 1) (d + 1) 0 op := ⟨hop, Or.inr ⟨rfl, c, j' + 1, rfl, ed, eL ▸ hb9⟩⟩
                  exact tail (d + 1) 0 op _ _ I hs1 ls (lv_sub hl [1, 2, 3, 4, 5, 6, 7, 8, 9] rfl)
                · refine lv_iload hx hb dL_law_240 (lv_at hl 0 rfl) ?_
                  refine lv_sipush (v := 606) hx hb dL_law_242 (by decide) ?_
                  refine lv_icmp_ge (tgt := 311) hx hb dL_law_245 (by decide) (fun c_245 => ?_) (fun c_245 => ?_)
                  · have hs1 : scI k rest (j' + 1 + 1) (d + 1) 0 op := ⟨hop, Or.inr ⟨rfl, c, j' + 1, rfl, ed, eL ▸ hb9⟩⟩
                    exact tail (d + 1) 0 op _ _ I hs1 ls (lv_sub hl [1, 2, 3, 4, 5, 6, 7, 8, 9] rfl)
                  · refine lv_iload hx hb dL_law_248 (lv_at hl 3 rfl) ?_
                    refine lv_if_le (tgt := 311) hx hb dL_law_250 (by decide) (fun c_250 => ?_) (fun c_250 => ?_)
                    · exact absurd c_250 (nI_nle (by omega) (by omega))
                    · refine lv_iload hx hb dL_law_253 (lv_at hl 0 rfl) ?_
                      refine lv_sipush (v := 600) hx hb dL_law_255 (by decide) ?_
                      refine lv_aload_n hx hb dL_law_258 rfl (lv_at hl 7 rfl) ?_
                      refine lv_iload hx hb dL_law_259 (lv_at hl 3 rfl) ?_
                      refine lv_iconst (v := 1) hx hb dL_law_261 (by decide) ?_
                      refine lv_isub hx hb dL_law_262 ?_
                      refine W.eq (congrArg (fun z => F0 m 263 ls (.int z :: [.ref od, .int 600, .int x])) (nI_pred d)) ?_
                      refine k_iald (q0 := 13) (t0 := 4) (j := d) (x := nI c) S I rfl rfl (by omega) (by decide) rfl ((hop d (by omega)).trans (congrArg nI (by omega))) dL_law_263 ?_
                      refine lv_iadd hx hb dL_law_264 ?_
                      refine lv_icmp_ne (tgt := 311) hx hb dL_law_265 (by decide) (fun c_265 => ?_) (fun c_265 => ?_)
                      · have hs1 : scI k rest (j' + 1 + 1) (d + 1) 0 op := ⟨hop, Or.inr ⟨rfl, c, j' + 1, rfl, ed, eL ▸ hb9⟩⟩
                        exact tail (d + 1) 0 op _ _ I hs1 ls (lv_sub hl [1, 2, 3, 4, 5, 6, 7, 8, 9] rfl)
                      · exact absurd c_265 ho.2
              · exact absurd ⟨Int32.not_lt.mp c_172, Int32.not_le.mp c_179⟩ ho.1
set_option maxHeartbeats 40000000 in
set_option maxRecDepth 100000 in
/-- THE RUNS -/
theorem law_runs {p : Program} {e : Env} {s : State} {m : MethodId} {below : List Frame} {meth : Method} {c : Code} (l : Launch) (hfl : l.stackTraces = false) {b L : Nat} {xs : Nat → Int32} (hL : L ≤ 260) (S : CallFix p m c cL_law 10 s #[Value.ref b] wtL_law RL) (hX : va_X b L xs s s.heap) (hbl : b < s.heap.size) (D : va_G) (cy : Nat → ClassId) (ad : Nat → Nat) (hr : meth.sig.returnType = ret) (hlocks : meth.locks = false) (od : Nat) :
    ∀ (n i : Nat), i ≤ 40 → 40 < i + n → ∀ (C : rC) (N : rN) (T : rT) (op : Nat → Int32), N.2 < 99000 → T.2.2 ≤ 7 → ∀ (H : Heap) (locs : List Loc), KI D cy (fun q => s.heap.size ≤ q) (rgW ad cy C N T (nI i) ([(od, .inl (cy 4, 64, .inl op))])) s H locs → ∀ ls : Array Slot, lv_has ls 10 [(3, .int (nI i)), (2, .ref od), (1, .ref (ad 0)), (0, .ref b)] → W p l e room_1 s m #[Value.ref b] below meth c H locs (25 + 2 * i) (300 + 16 * i) (lw_Z below #[Value.ref b] s) (F0 m 73 ls []) := by
  obtain ⟨hx, hb, hml, hown, hts⟩ := id S
  intro n
  induction n with
  | zero => intro i h1 h2; exact absurd h2 (by omega)
  | succ n ih =>
    intro i hi0 hi1 C N T op hN hT H locs I ls hl
    have fin : ∀ (H : Heap) (locs : List Loc), KI D cy (fun q => s.heap.size ≤ q) (rgW ad cy C N T (nI i) ([(od, .inl (cy 4, 64, .inl op))])) s H locs → ∀ ls : Array Slot, W p l e room_1 s m #[Value.ref b] below meth c H locs (25 + 2 * i) (300 + 16 * i) (lw_Z below #[Value.ref b] s) (F0 m 348 ls []) := by
      intro H locs I ls
      refine lv_iconst (v := 1) hx hb dL_law_348 (by decide) ?_
      refine va_forget (fun q hq => I.2.2.2.2.2.2.2 q hq) ?_
      refine W.widen (k := 668902) (n := 7089309) (by omega) (by omega) ?_
      exact lw_ret hx hb hr hlocks dL_law_349
    refine lv_iload_n hx hb dL_law_73 rfl (lv_at hl 0 rfl) ?_
    refine lv_aload_n hx hb dL_law_74 rfl (lv_at hl 3 rfl) ?_
    refine va_slen hx hb hX hbl (Nat.not_le.mpr hbl) I.2.2.2.2.2 dL_law_75 ?_
    refine lv_icmp_ge (tgt := 348) hx hb dL_law_76 (by decide) (fun c_76 => ?_) (fun c_76 => ?_)
    · exact fin _ _ I ls
    · have hiL : i < L := Nat.lt_of_not_le (fun h => c_76 (nI_le h (by omega)))
      refine lv_iload_n hx hb dL_law_79 rfl (lv_at hl 0 rfl) ?_
      refine lv_bipush (v := 40) hx hb dL_law_80 (by decide) ?_
      refine lv_icmp_ge (tgt := 348) hx hb dL_law_82 (by decide) (fun c_82 => ?_) (fun c_82 => ?_)
      · exact fin _ _ I ls
      · have hi4 : i < 40 := Nat.lt_of_not_le (fun h => c_82 (show nI 40 ≤ nI i from nI_le h (by omega)))
        obtain ⟨k, hk, ek⟩ := top_of (xs i)
        refine lv_aload_n hx hb dL_law_85 rfl (lv_at hl 3 rfl) ?_
        refine lv_iload_n hx hb dL_law_86 rfl (lv_at hl 0 rfl) ?_
        refine k_scr (j := i) (x := xs i) S I hX hbl (by omega) rfl (by omega) rfl dL_law_87 ?_
        refine lv_bipush (v := 15) hx hb dL_law_88 (by decide) ?_
        refine lv_iand hx hb dL_law_90 ?_
        refine lv_bipush (v := 6) hx hb dL_law_91 (by decide) ?_
        refine lv_irem hx hb dL_law_93 (by decide) ?_
        refine W.eq (congrArg (fun z => F0 m 94 ls (.int z :: [])) ek) ?_
        refine lv_istore (lv' := [(4, .int (nI k)), (3, .int (nI i)), (2, .ref od), (1, .ref (ad 0)), (0, .ref b)]) hx hb dL_law_94 hl (by decide) rfl (fun ls hl => ?_)
        refine lv_aload_n hx hb dL_law_96 rfl (lv_at hl 3 rfl) ?_
        refine lv_iload hx hb dL_law_97 (lv_at hl 0 rfl) ?_
        refine lv_aload_n hx hb dL_law_99 rfl (lv_at hl 4 rfl) ?_
        refine lv_iload_n hx hb dL_law_100 rfl (lv_at hl 1 rfl) ?_
        refine k_scr (j := i) (x := xs i) S I hX hbl (by omega) rfl (by omega) rfl dL_law_101 ?_
        refine lv_iconst (v := 4) hx hb dL_law_102 (by decide) ?_
        refine lv_ishr hx hb dL_law_103 ?_
        refine lv_bipush (v := 15) hx hb dL_law_104 (by decide) ?_
        refine lv_iand hx hb dL_law_106 ?_
        refine lv_iconst (v := 1) hx hb dL_law_107 (by decide) ?_
        refine lv_isub hx hb dL_law_108 ?_
        refine lv_aload_n hx hb dL_law_109 rfl (lv_at hl 4 rfl) ?_
        refine lv_iload_n hx hb dL_law_110 rfl (lv_at hl 1 rfl) ?_
        refine k_scr (j := i) (x := xs i) S I hX hbl (by omega) rfl (by omega) rfl dL_law_111 ?_
        refine lv_bipush (v := 8) hx hb dL_law_112 (by decide) ?_
        refine lv_ishr hx hb dL_law_114 ?_
        refine k_SWl (As := [.ref (ad 0), .int (nI k), .int ((((xs i) >>> (4 &&& 31)) &&& 15) - 1), .int ((xs i) >>> (8 &&& 31))]) (rest := []) (w1 := rgW ad cy C ((dlF C k (gdF C k) (((xs i >>> (4 &&& 31)) &&& 15) - 1) (xs i >>> (8 &&& 31)) ((N.1, 0), dpT T)).1.1) ((dlF C k (gdF C k) (((xs i >>> (4 &&& 31)) &&& 15) - 1) (xs i >>> (8 &&& 31)) ((N.1, 0), dpT T)).1.2) (nI i + 1) ([(od, .inl (cy 4, 64, .inl op))])) S I (c_Lrun l hfl D cy _ ad C N T (nI i) [(od, .inl (cy 4, 64, .inl op))] k hk (((xs i >>> (4 &&& 31)) &&& 15) - 1) (xs i >>> (8 &&& 31))) (vx_cwSW 4 hts (gx_S gL_law_L_run xw_good) rfl rfl rfl (by decide +kernel) ⟨(Nat.le_of_ble_eq_true rfl), (Nat.le_of_ble_eq_true rfl)⟩) rfl hl.1 rfl (Nat.le_of_ble_eq_true rfl) dL_law_115 ⟨by show 25 + 2 * i + 1 ≤ 668902; omega, by show 300 + 16 * i + 8 ≤ 7089309; omega⟩ (fun G H locs I => ?_)
        obtain ⟨rest, er, hbk, -⟩ := run_n C hk (((xs i >>> (4 &&& 31)) &&& 15) - 1) (xs i >>> (8 &&& 31)) N T
        obtain ⟨hN1, hT1⟩ := run_h C hk (((xs i >>> (4 &&& 31)) &&& 15) - 1) (xs i >>> (8 &&& 31)) N T
        generalize (dlF C k (gdF C k) (((xs i >>> (4 &&& 31)) &&& 15) - 1) (xs i >>> (8 &&& 31)) ((N.1, 0), dpT T)).1.1 = N1 at I er hN1
        generalize (dlF C k (gdF C k) (((xs i >>> (4 &&& 31)) &&& 15) - 1) (xs i >>> (8 &&& 31)) ((N.1, 0), dpT T)).1.2 = T1 at I hT1
        have I := I.to (w1 := rgW ad cy C N1 T1 (nI (i + 1)) ([(od, .inl (cy 4, 64, .inl op))])) (by rw [← nI_succ])
        have hlen : N1.2 = rest.length + 1 := by rw [er, apN_2, List.length_cons]; omega
        have hat : ∀ (j : Nat) (x : Int32), (nI k :: rest)[j]? = some x → j < 64 → N1.1 j = x := fun j x h1 h2 => by
          have h9 := apN_at (nI k :: rest) (N.1, 0) j x h1 (by show 0 + j < 64; omega)
          rw [← er] at h9
          rwa [show (N.1, 0).2 + j = j from Nat.zero_add j] at h9
        refine W.widen (k := 26 + 2 * i) (n := 308 + 16 * i) (by omega) (by omega) ?_
        refine lv_pop2_2 hx hb dL_law_118 rfl ?_
        refine lv_aload_n hx hb dL_law_119 rfl (lv_at hl 3 rfl) ?_
        refine lv_iconst (v := 1) hx hb dL_law_120 (by decide) ?_
        refine k_SWi (As := [.ref (ad 0), .int 1]) (rest := []) (w1 := rgW ad cy C N1 T1 (nI (i + 1)) ([(od, .inl (cy 4, 64, .inl op))])) (G := (cnF N1 T1 (nI (i + 1)) 1)) S I (c_Lcount1 l hfl D cy _ ad C N1 T1 (nI (i + 1)) [(od, .inl (cy 4, 64, .inl op))] hT1 1 ⟨by decide, by decide⟩) (vx_cwSW 2 hts (gx_L gL_law_L_count) rfl rfl rfl (by decide +kernel) ⟨(Nat.le_of_ble_eq_true rfl), (Nat.le_of_ble_eq_true rfl)⟩) rfl hl.1 rfl (Nat.le_of_ble_eq_true rfl) dL_law_121 ⟨by show 26 + 2 * i + 0 ≤ 668902; omega, by show 308 + 16 * i + 0 ≤ 7089309; omega⟩ (fun H locs I => ?_)
        refine W.eq (congrArg (fun z => F0 m 124 ls (.int z :: [])) (cnF_1 N1 T1 (nI (i + 1)))) ?_
        refine lv_iload_n hx hb dL_law_124 rfl (lv_at hl 1 rfl) ?_
        refine lv_iconst (v := 1) hx hb dL_law_125 (by decide) ?_
        refine lv_iadd hx hb dL_law_126 ?_
        refine W.eq (congrArg (fun z => F0 m 127 ls (.int z :: [.int (nI (i + 1))])) (nI_add i 1)) ?_
        refine lv_icmp_eq (tgt := 132) hx hb dL_law_127 (by decide) (fun c_127 => ?_) (fun c_127 => ?_)
        · refine lv_aload_n hx hb dL_law_132 rfl (lv_at hl 3 rfl) ?_
          refine lv_iconst (v := 0) hx hb dL_law_133 (by decide) ?_
          refine k_SWi (As := [.ref (ad 0), .int 0]) (rest := []) (w1 := rgW ad cy C N1 T1 (nI (i + 1)) ([(od, .inl (cy 4, 64, .inl op))])) (G := (cnF N1 T1 (nI (i + 1)) 0)) S I (c_Lcount1 l hfl D cy _ ad C N1 T1 (nI (i + 1)) [(od, .inl (cy 4, 64, .inl op))] hT1 0 ⟨by decide, by decide⟩) (vx_cwSW 2 hts (gx_L gL_law_L_count) rfl rfl rfl (by decide +kernel) ⟨(Nat.le_of_ble_eq_true rfl), (Nat.le_of_ble_eq_true rfl)⟩) rfl hl.1 rfl (Nat.le_of_ble_eq_true rfl) dL_law_134 ⟨by show 26 + 2 * i + 0 ≤ 668902; omega, by show 308 + 16 * i + 0 ≤ 7089309; omega⟩ (fun H locs I => ?_)
          refine W.eq (congrArg (fun z => F0 m 137 ls (.int z :: [])) (cnF_0 N1 T1 (nI (i + 1)))) ?_
          refine lv_istore (lv' := [(5, .int (nI N1.2)), (4, .int (nI k)), (3, .int (nI i)), (2, .ref od), (1, .ref (ad 0)), (0, .ref b)]) hx hb dL_law_137 hl (by decide) rfl (fun ls hl => ?_)
          refine lv_iconst (v := 0) hx hb dL_law_139 (by decide) ?_
          refine lv_istore (lv' := [(6, .int 0), (5, .int (nI N1.2)), (4, .int (nI k)), (3, .int (nI i)), (2, .ref od), (1, .ref (ad 0)), (0, .ref b)]) hx hb dL_law_140 hl (by decide) rfl (fun ls hl => ?_)
          refine lv_iconst (v := 1) hx hb dL_law_142 (by decide) ?_
          refine lv_istore (lv' := [(7, .int 1), (6, .int 0), (5, .int (nI N1.2)), (4, .int (nI k)), (3, .int (nI i)), (2, .ref od), (1, .ref (ad 0)), (0, .ref b)]) hx hb dL_law_143 hl (by decide) rfl (fun ls hl => ?_)
          refine lv_iconst (v := 0) hx hb dL_law_145 (by decide) ?_
          refine lv_istore (lv' := [(8, .int 0), (7, .int 1), (6, .int 0), (5, .int (nI N1.2)), (4, .int (nI k)), (3, .int (nI i)), (2, .ref od), (1, .ref (ad 0)), (0, .ref b)]) hx hb dL_law_146 hl (by decide) rfl (fun ls hl => ?_)
          have hs0 : scI k rest 0 0 1 op := ⟨fun t ht => absurd ht (Nat.not_lt_zero t), Or.inl ⟨rfl, rfl, rfl⟩⟩
          refine law_scan l hfl hL S hX hbl D cy ad od hk hN1 hlen hat hbk (K1 := 26 + 2 * i) (K2 := 308 + 16 * i) (by omega) (by omega) ?_ 65 0 (by omega) (by decide) (by decide) 0 1 op hs0 _ _ I ls (lv_sub hl [0, 1, 2, 3, 4, 5, 6, 7, 8] rfl)
          intro d op H locs I hd ls hl
          have last : ∀ (H : Heap) (locs : List Loc), KI D cy (fun q => s.heap.size ≤ q) (rgW ad cy C N1 T1 (nI (i + 1)) ([(od, .inl (cy 4, 64, .inl op))])) s H locs → ∀ ls : Array Slot, lv_has ls 10 [(6, .int (nI d)), (5, .int (nI N1.2)), (3, .int (nI i)), (2, .ref od), (1, .ref (ad 0)), (0, .ref b)] → W p l e room_1 s m #[Value.ref b] below meth c H locs (26 + 2 * i) (308 + 16 * i) (lw_Z below #[Value.ref b] s) (F0 m 329 ls []) := by
            intro H locs I ls hl
            refine lv_aload_n hx hb dL_law_329 rfl (lv_at hl 4 rfl) ?_
            refine lv_iload hx hb dL_law_330 (lv_at hl 1 rfl) ?_
            refine k_SWi (As := [.ref (ad 0), .int (nI N1.2)]) (rest := []) (w1 := rgW ad cy C N1 T1 (nI (i + 1)) ([(od, .inl (cy 4, 64, .inl op))])) (G := -1000000101) S I (c_Lnote0 l hfl D cy _ ad C N1 T1 (nI (i + 1)) [(od, .inl (cy 4, 64, .inl op))] (by omega) (nI N1.2) (Or.inr (Or.inl (Int32.le_refl _)))) (vx_cwSW 2 hts (gx_S gL_law_L_note xw_good) rfl rfl rfl (by decide +kernel) ⟨(Nat.le_of_ble_eq_true rfl), (Nat.le_of_ble_eq_true rfl)⟩) rfl hl.1 rfl (Nat.le_of_ble_eq_true rfl) dL_law_332 ⟨by show 26 + 2 * i + 1 ≤ 668902; omega, by show 308 + 16 * i + 8 ≤ 7089309; omega⟩ (fun H locs I => ?_)
            refine lv_ldc (v := -1000000101) hx hb hown (hts (.constant RL 15 (-1000000101)) (List.mem_append_left _ (by decide +kernel))) dL_law_335 ?_
            refine lv_icmp_eq (tgt := 342) hx hb dL_law_337 (by decide) (fun c_337 => ?_) (fun c_337 => ?_)
            · refine lv_iinc (v := (nI (i + 1))) (lv' := [(3, .int (nI (i + 1))), (6, .int (nI d)), (5, .int (nI N1.2)), (2, .ref od), (1, .ref (ad 0)), (0, .ref b)]) hx hb dL_law_342 hl (k := 2) rfl (nI_add i 1) (by decide) rfl (fun ls hl => ?_)
              refine lv_goto (tgt := 73) hx hb dL_law_345 (by decide) ?_
              refine W.widen (k := 25 + 2 * (i + 1)) (n := 300 + 16 * (i + 1)) (by omega) (by omega) ?_
              exact ih (i + 1) (by omega) (by omega) C N1 T1 op hN1 hT1 _ _ I ls (lv_sub hl [0, 3, 4, 5] rfl)
            · exact absurd rfl c_337
          refine lv_iload hx hb dL_law_317 (lv_at hl 1 rfl) ?_
          refine lv_bipush (v := 64) hx hb dL_law_319 (by decide) ?_
          refine lv_icmp_gt (tgt := 329) hx hb dL_law_321 (by decide) (fun c_321 => ?_) (fun c_321 => ?_)
          · exact last _ _ I ls hl
          · refine lv_iload hx hb dL_law_324 (lv_at hl 0 rfl) ?_
            refine lv_if_ne (tgt := 340) hx hb dL_law_326 (by decide) (fun c_326 => ?_) (fun c_326 => ?_)
            · exact absurd (show nI d = 0 from by rw [hd (Nat.not_lt.mp (fun h => c_321 (show nI 64 < nI N1.2 from nI_lt h (by omega))))]; rfl) c_326
            · exact last _ _ I ls hl
        · exact absurd rfl c_127
set_option maxHeartbeats 40000000 in
set_option maxRecDepth 100000 in
/-- THE LAW, from its entry -/
theorem whole_start {p : Program} {e : Env} {s : State} {m : MethodId} {below : List Frame} {meth : Method} {c : Code} (l : Launch) (hflags : l.flags = flags0) {b L : Nat} {xs : Nat → Int32} (hL : L ≤ 260) (C0 : lw_At p s m meth c b L xs) : W p l e room_1 s m #[Value.ref b] below meth c s.heap [] 0 0 (lw_Z below #[Value.ref b] s) (entryFrame m ([Value.ref b] : List Value).toArray 10) := by
  obtain ⟨D, cy, I⟩ := law_env C0
  obtain ⟨hx, hb, hr, hml, hown, htb, hX, hbl, hlocks, hgv⟩ := id C0
  have hts : ∀ w ∈ wtL_law, w.before #[Value.ref b] s = true := fun w h => htb w (wtL_law_in w h)
  have S : CallFix p m c cL_law 10 s #[Value.ref b] wtL_law RL := ⟨hx, hb, hml, hown, hts⟩
  have hfl : l.stackTraces = false := by show (!l.flags.contains noTraceFlag) = false; rw [hflags]; decide +kernel
  have hl := lv_entry ([.ref b]) (n := 10) (Nat.le_of_ble_eq_true rfl)
  rw [lg_entry_eq]
  generalize (lg_sl ([.ref b]) ++ List.replicate (10 - (lg_sl ([.ref b])).length) Slot.unset).toArray = ls at hl ⊢
  have hl : lv_has ls 10 [(0, .ref b)] := hl
  refine k_new (C := RX3) (T := TX3) (N := 4) (ci := 3) (fs := [.null, .null, .null, .int 0]) (wf := fun h => [(h, .inr (3, [.null, .null, .null, .int 0]))]) S I il_X3 tyX3 tyX3_ok (List.mem_append_left _ (by decide +kernel)) (List.mem_append_left _ (by decide +kernel)) (List.mem_append_left _ (by decide +kernel)) rfl (fun j hj => by match j, hj with | 0, _ => rfl | 1, _ => rfl | 2, _ => rfl | 3, _ => rfl) (Nat.le_of_ble_eq_true rfl) (Nat.le_of_ble_eq_true rfl) (fun _ => rfl) dL_law_0 (fun h H I => ?_)
  refine lv_dup hx hb dL_law_3 rfl ?_
  refine k_II (As := []) (rest := [.ref h]) S I (c_Rinit l D cy _ h) (cwI 0 hts (gx_L gL_law_X3_init) rfl rfl rfl (hts (.initialized RX3) (List.mem_append_left _ (by decide +kernel))) (hts (.methodLink RL 45 yX3_init) (List.mem_append_left _ (by decide +kernel))) (hts (.instanceMethod yX3_init) (List.mem_append_left _ (by decide +kernel))) rfl (by decide +kernel) ⟨(Nat.le_of_ble_eq_true rfl), (Nat.le_of_ble_eq_true rfl)⟩) rfl hl.1 rfl (Nat.le_of_ble_eq_true rfl) dL_law_4 ⟨(Nat.le_of_ble_eq_true rfl), (Nat.le_of_ble_eq_true rfl)⟩ (fun ad H locs h9 I2 => ?_)
  subst h9
  have I := I2
  refine lv_astore_n (lv' := [(1, .ref (ad 0)), (0, .ref b)]) hx hb dL_law_7 rfl hl (by decide) rfl (fun ls hl => ?_)
  refine lv_iconst (v := 0) hx hb dL_law_8 (by decide) ?_
  refine lv_istore_n (lv' := [(2, .int (nI (4 * 0))), (1, .ref (ad 0)), (0, .ref b)]) hx hb dL_law_9 rfl hl (by decide) rfl (fun ls hl => ?_)
  refine W.widen (k := 20) (n := 200) (Nat.le_of_ble_eq_true rfl) (Nat.le_of_ble_eq_true rfl) ?_
  refine law_sets l hfl hL S hX hbl D cy ad ?_ 7 0 (by decide) (by decide) rC0 _ _ I ls hl
  intro C H locs I ls hl
  refine lv_bipush (v := 64) hx hb dL_law_66 (by decide) ?_
  refine k_newa (t0 := 4) (N' := 64) (wf := fun od => rgW ad cy C rN0 rT0 0 [(od, .inl (cy 4, 64, .inl (fun _ => 0)))]) S I (List.mem_append_left _ (by decide +kernel)) rfl (by decide) rfl (Nat.le_of_ble_eq_true rfl) (Nat.le_of_ble_eq_true rfl) (Nat.le_of_ble_eq_true rfl) (fun _ => rfl) dL_law_68 (fun od H I => ?_)
  refine lv_astore_n (lv' := [(2, .ref od), (1, .ref (ad 0)), (0, .ref b)]) hx hb dL_law_70 rfl hl (by decide) rfl (fun ls hl => ?_)
  refine lv_iconst (v := 0) hx hb dL_law_71 (by decide) ?_
  refine lv_istore_n (lv' := [(3, .int (nI 0)), (2, .ref od), (1, .ref (ad 0)), (0, .ref b)]) hx hb dL_law_72 rfl hl (by decide) rfl (fun ls hl => ?_)
  have I := I.to (w1 := rgW ad cy C rN0 rT0 (nI 0) [(od, .inl (cy 4, 64, .inl (fun _ => 0)))]) rfl
  refine W.widen (k := 25) (n := 300) (Nat.le_of_ble_eq_true rfl) (Nat.le_of_ble_eq_true rfl) ?_
  exact law_runs l hfl hL S hX hbl D cy ad hr hlocks od 41 0 (by decide) (by decide) C rN0 rT0 (fun _ => 0) (by decide) (by decide) _ _ I ls hl
end
section
/-! THE CLAIM, out of whole_start: the end of the skeleton -/
set_option maxHeartbeats 4000000 in
theorem lw_walk (l : Launch) (hflags : l.flags = flags0) (b : Addr) (xs : List Int32) : MetFree l x (headSpec (Jvm.Cond.code x code maxLocals ret :: tables_1) room_1) (lw_P b xs) (fun _ _ _ _ _ => True) lw_Q := by
  refine MetFree.of_bodyS (code := code) (maxLocals := maxLocals) (ret := ret) (by decide) ?_ ?_
  · intro args s m h hn
    obtain ⟨meth, c, h1, h2, h3, h4, h5, h6, -, -⟩ := Cond.code_spec hn (atoms_spec (ws := Jvm.Cond.code x code maxLocals ret :: tables_1) h _ List.mem_cons_self)
    exact ⟨meth, c, h1, h2, h3, h4, h5, h6⟩
  · intro p e s m args below meth c s₁ B hml0 hP _
    obtain ⟨rfl, hx, hbd, hgv⟩ := hP
    obtain ⟨scr, harrAt, hlist, hof, hsmall⟩ := hx
    obtain ⟨hcb, hkn, -, -⟩ := State.arrayAt?_spec harrAt
    have hown : s.vm.findClass R_law = some m.cls := findClass_of_methodNamed B.named
    have hts0 : ∀ c ∈ (Jvm.Cond.code x code maxLocals ret :: tables_1), c.before #[Value.ref b] s = true := atoms_spec (ws := Jvm.Cond.code x code maxLocals ret :: tables_1) B.pre
    have hts : ∀ w ∈ lw_tbl, w.before #[Value.ref b] s = true := k2_hts_sels lw_privs (fun w hw => hts0 w (List.mem_cons_of_mem _ hw)) lw_privs_ok
    have hml : c.maxLocals = 10 := B.maxLocals_eq (hts0 _ List.mem_cons_self)
    have X₀ : Stand p l e room_1 s m #[Value.ref b] below meth c s₁ [] 0 0 := Stand.of_body B
    have hh0 : s₁.heap = s.heap := by rw [B.state]; rfl
    have hsz : scr.slots.size = xs.length := by rw [← Array.length_toList, hlist, List.length_map]
    have hval : ∀ j : Nat, j < xs.length → scr.slots[j]? = some (.int (xs.getD j 0)) := fun j hj => by
      rw [← Array.getElem?_toList, hlist]
      simp [hj]
    have hbl : b < s.heap.size := (Array.getElem?_eq_some_iff.mp hcb).1
    have hX : va_X b xs.length (fun j => xs.getD j 0) s s.heap := ⟨scr, hcb, hof, hkn, hsz, hval⟩
    have K : W p l e room_1 s m #[Value.ref b] below meth c s₁.heap [] 0 0 (lw_Z below #[Value.ref b] s) (entryFrame m ([Value.ref b] : List Value).toArray 10) := by
      rw [hh0]
      exact whole_start l hflags hbd ⟨B.exec, B.bytes, B.returns, hml, hown, hts, hX, hbl, B.notSynchronized, hgv⟩
    obtain ⟨t, a1, o, b1, b2, b3⟩ := K s₁ rfl X₀
    exact ⟨t, o, a1, b1, b2, b3⟩
theorem lw_pre_spec {args : Array Value} {s : State} (h : (Jvm.Cond.and given_1 narrow_1).before args s = true) (hr : rest_1_c.before args s = true) : ∃ (b : Addr) (xs : List Int32), lw_P b xs args s := by
  have hs := flat_of_before _ h
  have hq := flat_of_before _ hr
  have hc : (Cond.count 1).before args s = true := hs _ (by decide +kernel)
  have harr : (Cond.arrayOf (.arg 0) .int).before args s = true := hs _ (by decide +kernel)
  have hle : (Cond.le (.length (.arg 0)) (.int 260)).before args s = true := hs _ (by decide +kernel)
  have hlen : (Cond.isInt (.length (.arg 0))).before args s = true := hq _ (by decide +kernel)
  have hall : (Cond.all (.arg 0) (.isInt (.elem (.arg 0) (.index 0)))).before args s = true := hq _ (by decide +kernel)
  obtain ⟨b, xs, hb, hx⟩ := State.ints_of_pre rfl harr hlen hall
  have hsm : xs.length < 2 ^ 31 := hx.choose_spec.2.2.2
  have hev : (Term.length (.arg 0)).eval args s none [] s = some (.int xs.length.toInt32) := hx.length_eval hb
  have hv := Cond.le_ints hev (show (Term.int 260).eval args s none [] s = some (.int 260) from rfl)
  have hd : xs.length.toInt32 ≤ 260 := by
    simpa [Cond.before, Cond.holds, hv] using hle
  have hN : xs.length ≤ 260 := (Int32.ofNat_le_ofNat hsm (by decide)).mp (show Int32.ofNat xs.length ≤ Int32.ofNat 260 from hd)
  exact ⟨b, xs, Cond.one_arg hc (show args[0]? = some (.ref b) from hb), hx, hN, h⟩
theorem lw_comes (l : Launch) (hflags : l.flags = flags0) : Comes l x (Jvm.Cond.code x code maxLocals ret :: tables_1) room_1 (fun tb e args s => Calls_1 tb e args s ∧ rest_1 tb e args s ∧ Pre_1 tb e args s)
    (fun _ _ args s o t => lw_Q args s o t) := by
  intro p e ha hc hk s m args below hf hfit hheap happ hpre
  obtain ⟨b, xs, hP⟩ := lw_pre_spec hpre.2.2 hpre.2.1
  obtain ⟨k, o, h1, h2, h3, hQ⟩ := lw_walk l hflags b xs p e ha hc hk s m args below hf ((Spec.applies_iff_loose hf).mp happ).1 hP trivial
  exact ⟨k, o, h1, h2, h3, hQ⟩
theorem lw_frame {s t : State} {o : Outcome} {args : Array Value} (h : Framed s o t [] 668902 7089309) :
    Framed s o t (fieldLocs frame_1_writes args s ++ arrayLocs frame_1_arrays args s ++ staticLocs frame_1_statics s) 668902 7089309 := h
theorem lw_limb (L : Cond) (hL : ∀ (args : Array Value) (s t : State), L.after args s (.returned (some (.int 1))) t = true) :
    ArmFor flags0 classFile x code maxLocals ret World_1 tables_1 room_1 Calls_1 rest_1 Pre_1
      (fun tb e a s o t => postC L tb e a s o t ∧ Framed s o t (fieldLocs frame_1_writes a s ++ arrayLocs frame_1_arrays a s ++ staticLocs frame_1_statics s) 668902 7089309) := by
  intro l hflags _ _ p e ha hc hk s m args below hf hfit hheap happ hpre
  obtain ⟨k, o, h1, h2, h3, rfl, hF⟩ := lw_comes l hflags p e ha hc hk s m args below hf hfit hheap happ hpre
  exact ⟨k, _, h1, h2, h3, hL args s _, lw_frame hF⟩
theorem i_vc : Claimed_1_1 ∧ Claimed_1_2 := ⟨lw_limb limb_1_1 (fun args s t => by simp [limb_1_1, Cond.after, Cond.holds, Cond.value]), lw_limb limb_1_2 (fun args s t => Cond.after_iff.mpr (by
  first | (rw [show limb_1_2 = Cond.eq .result (.int 1) from rfl, Cond.eq_ints (x := 1) (y := 1) rfl rfl]; simp; done) | (simp [limb_1_2, Cond.value, Term.eval]; done)))⟩
end
