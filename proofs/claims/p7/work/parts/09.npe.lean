/-! 'throw new NullPointerException("text")' BY THE PROGRAM ITSELF, no traces kept: the constructor passes the text up to Throwable's, whose fillInStackTrace() is NullPointerException's own -/
section VN
/-- NullPointerException's fillInStackTrace() on a cell that nobody holds: in and out -/
theorem vn_fill (p : Program) {e : Env} {below : List Frame} {s₀ V : State} {g : JFrame} {c : Code} {self : Addr} (h : At V g.method c below) (hexec : p.tables.exec = Jvm.exec) (htr : e.platform.stackTraces = false)
    (T : ThrowableC) (L : T.Links e.platform s₀) (N : NpeC) (LN : N.Links T e.platform s₀) (hW : s₀.WarmedH V.vm) {u0 : RefV} {cell cellS : Cell} {kcell : Class} {ig : Instr} {len : Nat}
    (hcell : V.heap[self]? = some cell) (hobj : ∀ k, cell.vm ≠ .statics k) (hknown : cell.vm ≠ .unknown) (hfree : cell.monitor.owner = none)
    (hkcell : s₀.vm.classes[cell.cls]? = some kcell) (hsel0 : selectMethod e.platform s₀.vm cell.cls T.fill0 = .method T.fill0)
    (hcellS : V.heap[T.aS]? = some cellS) (hneS : T.aS ≠ self) (hknownS : cellS.vm ≠ .unknown) (hvU : cellS.slots[T.fUnassigned.slot]? = some u0.v)
    (hv0 : cell.slots[N.fState.slot]? = some (.int 0)) (hneSt : T.fStack.slot ≠ N.fState.slot) (hvS : cell.slots[T.fStack.slot]? = some u0.v)
    (htS : Takes s₀ cell T.fStack u0.v) (ht1 : Takes s₀ cell N.fState (.int 1))
    (hskip : SkipFacts T e.platform s₀ (fun u => u) u0 ((npeCell N.toNpeT cell V.cur).withEntry V.cur))
    {lim : Nat × Nat} (hlim : e.platform.stackLimits V.me = lim) (hframes : V.frames.length + 2 < lim.1) (hwords : (stackUse (.java g :: V.frames.tail)).2 + 43 ≤ lim.2) (hdg : decode c.code g.pc = .ok (ig, len)) :
    ∃ vm', s₀.WarmedH vm' ∧ ∀ target, Steps p.tables e below (((V.setVm vm').setCell self ((((npeCell N.toNpeT cell V.cur).withEntry V.cur).setSlot T.fStack.slot u0.v).left).left).setTop { g with pc := g.pc + len, stack := .ref self :: g.stack }) target →
      Steps p.tables e below (doInvoke e (V.setTop g) [] N.fill #[.ref self]).1 target := by
  obtain ⟨g₀, hg0⟩ := Option.isSome_iff_exists.mp h.top
  obtain ⟨tl, htl⟩ := State.topJava?_eq_some.mp hg0
  have hlen : V.frames.length = (Frame.java g :: V.frames.tail).length := by rw [htl]; rfl
  have hfg : (V.setTop g).frames = .java g :: V.frames.tail := by rw [State.frames_setTop _ htl, htl]; rfl
  have hr1 : e.platform.stackFull (((V.setTop g).threads[(V.setTop g).cur]?).getD { frames := [] }) (V.setTop g).frames (1 + 2) = false :=
    roomAbove (pushed := []) (base := .java g :: V.frames.tail) (free := 43) (lim := lim) hfg (by rw [State.stackLimits_setTop _ h.top]; exact hlim) (by rw [← hlen]; simp only [List.length_nil]; omega) hwords (by simp only [stackUse_nil]; omega)
  obtain ⟨t, ht⟩ : ∃ t, t = V.cur := ⟨_, rfl⟩
  rw [← ht] at hskip ⊢
  obtain ⟨cM, hcM⟩ : ∃ z, z = (((npeCell N.toNpeT cell t).withEntry t).setSlot T.fStack.slot u0.v).left := ⟨_, rfl⟩
  rw [← hcM]
  have hheld : ((npeCell N.toNpeT cell t).withEntry t).left = npeCell N.toNpeT cell t := Cell.left_withEntry_held _ rfl (by show 0 < cell.monitor.count + 1; omega)
  have hMmon : cM.monitor = (npeCell N.toNpeT cell t).monitor := by
    have q := Cell.left_monitor_congr (x := ((npeCell N.toNpeT cell t).withEntry t).setSlot T.fStack.slot u0.v) (y := (npeCell N.toNpeT cell t).withEntry t) rfl
    rw [hcM, q, hheld]
  refine Exists.elim (Steps.npeFillColdBy p (V := V) (g := g) (c := c) (self := self) h hexec T L N LN hW (Fi := fun u => u.setCell self cM) (heapOnly_id.thenSetCell self cM) (fun _ => rfl) (fun u x y => by rw [setCell_twice, setCell_twice, setCell_twice])
    (cell := cell) (cFi := cM) (kcell := kcell) [] hcell hobj hknown hfree hkcell hv0 ht1 (fun u hu => heapAt_setCell_self _ (Array.getElem?_eq_some_iff.mp hu).1) (by rw [← ht]; exact hMmon) hdg (fun vm1 hW1 hB => ?_) hr1) (fun vm' q => ⟨vm', q.1, fun target hr => q.2 target (by rw [setCell_twice]; exact hr)⟩)
  have hlt : self < V.heap.size := (Array.getElem?_eq_some_iff.mp hcell).1
  have htopE : ∀ vm, ((V.setVm vm).setCell self (cell.withEntry (V.setVm vm).cur)).topJava?.isSome := fun vm => h.top
  have hfN : ∀ vm, (npeInside (V.setVm vm) g N.toNpeT self cell).frames = .java (entryFrameSync N.fill #[.ref self] 1 self) :: .java g :: V.frames.tail := fun vm => frames_entered (g := g) (htopE vm) _
  have htopN : ∀ vm, (npeInside (V.setVm vm) g N.toNpeT self cell).topJava?.isSome := fun vm => by rw [State.topJava?_of_frames (hfN vm)]; rfl
  have hlimN : ∀ vm, e.platform.stackLimits (npeInside (V.setVm vm) g N.toNpeT self cell).me = lim := fun vm => by
    show e.platform.stackLimits (fillInside (V.setVm vm) g N.fill self cell).me = lim
    rw [State.stackLimits_pushFrame, State.stackLimits_setTop _ (htopE vm)]; exact hlim
  have hw1 : (stackUse [Frame.java (fillJ N.fill self 37 [])]).2 = 14 := by
    rw [stackUse_java, stackUse_nil]
    simp [operandWords]
  have hr2 : ∀ vm, e.platform.stackFull ((((npeInside (V.setVm vm) g N.toNpeT self cell).setTop (fillJ N.fill self 37 [])).threads[((npeInside (V.setVm vm) g N.toNpeT self cell).setTop (fillJ N.fill self 37 [])).cur]?).getD { frames := [] }) ((npeInside (V.setVm vm) g N.toNpeT self cell).setTop (fillJ N.fill self 37 [])).frames (1 + 2) = false := fun vm =>
    roomAbove (pushed := [.java (fillJ N.fill self 37 [])]) (base := .java g :: V.frames.tail) (free := 43) (lim := lim) (State.frames_setTop _ (hfN vm)) (by rw [State.stackLimits_setTop _ (htopN vm)]; exact hlimN vm)
      (by rw [← hlen]; simp only [List.length_cons, List.length_nil]; omega) hwords (by rw [hw1]; omega)
  have hc1 : ∀ vm, (npeInside (V.setVm vm) g N.toNpeT self cell).heap[self]? = some (npeCell N.toNpeT cell t) := fun vm => by
    rw [ht]
    exact heapAt_setCell_self _ (by show self < (V.heap.setIfInBounds self _).size; simpa using hlt)
  have hc2 : (npeInside (V.setVm vm1) g N.toNpeT self cell).heap[T.aS]? = some cellS := by
    show ((V.heap.setIfInBounds self _).setIfInBounds self _)[T.aS]? = _
    simp [Ne.symm hneS, hcellS]
  have htopF : ∀ vm, ((npeInside (V.setVm vm) g N.toNpeT self cell).setCell self ((npeCell N.toNpeT cell t).withEntry (npeInside (V.setVm vm) g N.toNpeT self cell).cur)).topJava?.isSome := fun vm => by rw [State.topJava?_setCell]; exact htopN vm
  have hfF : ∀ vm, (fillInside (npeInside (V.setVm vm) g N.toNpeT self cell) (fillJ N.fill self 37 []) T.fill self (npeCell N.toNpeT cell t)).frames = .java (entryFrameSync T.fill #[.ref self] 1 self) :: .java (fillJ N.fill self 37 []) :: .java g :: V.frames.tail := fun vm => by
    rw [show (fillInside (npeInside (V.setVm vm) g N.toNpeT self cell) (fillJ N.fill self 37 []) T.fill self (npeCell N.toNpeT cell t)).frames = _ from frames_entered (g := fillJ N.fill self 37 []) (htopF vm) _]
    show _ :: _ :: ((npeInside (V.setVm vm) g N.toNpeT self cell).frames).tail = _
    rw [hfN vm]; rfl
  have htopF2 : ∀ vm, (fillInside (npeInside (V.setVm vm) g N.toNpeT self cell) (fillJ N.fill self 37 []) T.fill self (npeCell N.toNpeT cell t)).topJava?.isSome := fun vm => by rw [State.topJava?_of_frames (hfF vm)]; rfl
  have hlimF : ∀ vm, e.platform.stackLimits (fillInside (npeInside (V.setVm vm) g N.toNpeT self cell) (fillJ N.fill self 37 []) T.fill self (npeCell N.toNpeT cell t)).me = lim := fun vm => by
    rw [State.stackLimits_pushFrame, State.stackLimits_setTop _ (htopF vm)]; exact hlimN vm
  have hw2 : (stackUse [Frame.java (fillJ T.fill self 16 []), Frame.java (fillJ N.fill self 37 [])]).2 = 28 := by
    rw [stackUse_java, hw1]
    simp [operandWords]
  have hr3 : ∀ vm, e.platform.stackFull ((((fillInside (npeInside (V.setVm vm) g N.toNpeT self cell) (fillJ N.fill self 37 []) T.fill self (npeCell N.toNpeT cell t)).setTop (fillJ T.fill self 16 [])).threads[((fillInside (npeInside (V.setVm vm) g N.toNpeT self cell) (fillJ N.fill self 37 []) T.fill self (npeCell N.toNpeT cell t)).setTop (fillJ T.fill self 16 [])).cur]?).getD { frames := [] }) ((fillInside (npeInside (V.setVm vm) g N.toNpeT self cell) (fillJ N.fill self 37 []) T.fill self (npeCell N.toNpeT cell t)).setTop (fillJ T.fill self 16 [])).frames (nativeFrameWords "java/lang/Throwable" "fillInStackTrace" 2) = false := fun vm =>
    roomAbove (pushed := [.java (fillJ T.fill self 16 []), .java (fillJ N.fill self 37 [])]) (base := .java g :: V.frames.tail) (free := 43) (lim := lim) (State.frames_setTop _ (hfF vm)) (by rw [State.stackLimits_setTop _ (htopF2 vm)]; exact hlimF vm)
      (by rw [← hlen]; simp only [List.length_cons, List.length_nil]; omega) hwords (by rw [hw2]; decide)
  have hXvm : ∀ vm, (npeInside (V.setVm vm1) g N.toNpeT self cell).setVm vm = npeInside (V.setVm vm) g N.toNpeT self cell := fun vm => by rw [npeInside_setVm]; rfl
  have tk2 : ∀ {f : Field} {v : Value}, Takes s₀ cell f v → Takes s₀ (npeCell N.toNpeT cell t) f v := fun h' => ⟨by simpa [npeCell, Cell.setSlot, Cell.withEntry] using h'.1, h'.2⟩
  have hvSN : (npeCell N.toNpeT cell t).slots[T.fStack.slot]? = some u0.v := by
    simp [npeCell, Cell.setSlot, Cell.withEntry, Ne.symm hneSt, hvS]
  have hXcur : (npeInside (V.setVm vm1) g N.toNpeT self cell).cur = t := ht.symm
  obtain ⟨vm2, hW2, st⟩ := Steps.fillColdAnyV p (V := npeInside (V.setVm vm1) g N.toNpeT self cell) (g := fillJ N.fill self 37 []) (c := N.codeFill) (self := self) hB hexec T L (show s₀.WarmedH (npeInside (V.setVm vm1) g N.toNpeT self cell).vm from hW1) (Nn := fun u => u) heapOnly_id (fun _ _ => rfl) (fun _ => rfl) (fun u x y => setCell_twice _ _ _ _)
    (cell := npeCell N.toNpeT cell t) (cellS := cellS) (cN := (npeCell N.toNpeT cell t).withEntry t) (u0 := u0) (ig := .invokespecial 24) (len := 3) [] (hc1 vm1) hobj hknown (Or.inr (by rw [hXcur]; rfl)) hvSN hsel0 hc2 hneS hknownS hvU (fun u hu => by rw [hXcur] at hu; exact hu) (fun _ hu => hu) rfl rfl (by rw [hXcur]) (by simp [Cell.withEntry]) (tk2 htS)
    (by rw [LN.fillBytes]; exact LibCode.NullPointerException.Fill.at_37)
    (fun _ vm3 hW3 hA3 t' hs => by
      rw [hXvm] at hA3 hs ⊢
      exact L.nativeOff p htr hA3 (show s₀.WarmedH (fillInside (npeInside (V.setVm vm3) g N.toNpeT self cell) (fillJ N.fill self 37 []) T.fill self (npeCell N.toNpeT cell t)).vm from hW3) (hr3 vm3) hs)
    (hr2 vm1) (by rw [hXcur]; exact hskip)
  refine ⟨vm2, hW2, fun t' hs => st t' ?_⟩
  rw [hXvm, ← hcM]
  exact hs
/-- Throwable's constructor with a text, on a NullPointerException, up a chain of constructors that pass the text on -/
theorem vn_init (p : Program) {e : Env} {below : List Frame} {s₀ V : State} {g : JFrame} {c : Code} {self : Addr} (h : At V g.method c below) (hexec : p.tables.exec = Jvm.exec) (htr : e.platform.stackTraces = false)
    (T : ThrowableC) (L : T.Links e.platform s₀) (Z : Init0T) (LZ : Z.LaidS T.toThrowableT) (M : MsgC) (LM : M.Links T e.platform s₀) (N : NpeC) (LN : N.Links T e.platform s₀) (hW : s₀.WarmedH V.vm) {u0 sen : RefV} {msg : Value} (hmsg : msg.isRef = true) {cell cellS : Cell} {kcell : Class}
    (hcell : V.heap[self]? = some cell) (hobj : ∀ k, cell.vm ≠ .statics k) (hknown : cell.vm ≠ .unknown) (hfree : cell.monitor.owner = none) (hcount : cell.monitor.count = 0)
    (hkcell : s₀.vm.classes[cell.cls]? = some kcell) (hsel0 : selectMethod e.platform s₀.vm cell.cls T.fill0 = .method T.fill0)
    (hcellS : V.heap[T.aS]? = some cellS) (hneS : T.aS ≠ self) (hknownS : cellS.vm ≠ .unknown) (hvU : cellS.slots[T.fUnassigned.slot]? = some u0.v) (hvSen : cellS.slots[T.fSentinel.slot]? = some sen.v)
    (hv0 : cell.slots[N.fState.slot]? = some (.int 0)) (hneC : T.fCause.slot ≠ N.fState.slot) (hneSt : T.fStack.slot ≠ N.fState.slot) (hneP : T.fSupp.slot ≠ N.fState.slot)
    (htC : Takes s₀ cell T.fCause (.ref self)) (htS : Takes s₀ cell T.fStack u0.v) (htP : Takes s₀ cell T.fSupp sen.v) (htM : Takes s₀ cell T.fMsg msg) (ht1 : Takes s₀ cell N.fState (.int 1)) (hobjLocals : T.codeObj.maxLocals = 1)
    (hskip : SkipFacts T e.platform s₀ (fun u => u) u0 ((npeCell N.toNpeT (preparedCellV T.toThrowableT cell self u0 sen) V.cur).withEntry V.cur))
    (hselF : selectMethod e.platform s₀.vm cell.cls T.fill = .method N.fill)
    (Ps : List PassC) (hL : ∀ P, P ∈ Ps → P.LinksS e.platform s₀) (hlink : PassesOn (Z.m T.toThrowableT) (Ps.map (·.toPassT))) {ig : Instr} {len : Nat} (acts : List Action)
    {lim : Nat × Nat} (hlim : e.platform.stackLimits V.me = lim) (hframes : V.frames.length + Ps.length + 3 < lim.1) (hwords : (stackUse (.java g :: V.frames.tail)).2 + 13 * Ps.length + 56 ≤ lim.2)
    (hdg : decode c.code g.pc = .ok (ig, len)) :
    ∃ vm', s₀.WarmedH vm' ∧ ∀ target, Steps p.tables e below (((V.setVm vm').setCell self ((npeBareV T.toThrowableT N.toNpeT cell self u0 sen).setSlot T.fMsg.slot msg)).setTop { g with pc := g.pc + len }) target →
      Steps p.tables e below (doInvoke e (V.setTop g) acts (firstOf (Z.m T.toThrowableT) (Ps.map (·.toPassT))) #[.ref self, msg]).1 target := by
  obtain ⟨f1, -, -, f4, f5, f6⟩ := chainEnd_facts e.platform self msg (Ps.map (·.toPassT)) V g h.top
  have fc := chainEnd_cur self msg (Ps.map (·.toPassT)) V g
  rw [List.length_map] at f5 f6
  refine Steps.initChainSCold hexec (H := fun u => u.setCell self ((npeBareV T.toThrowableT N.toNpeT cell self u0 sen).setSlot T.fMsg.slot msg)) (heapOnly_id.thenSetCell self _) (Z.m T.toThrowableT) hmsg lim Ps V g c ig len acts h hW hL hlink hdg hlim (by omega) (by omega) (fun vm1 hW1 c' ig' len' hA' hdg' => ?_)
  simp only [chainEnd_setVm] at hA' hdg' ⊢
  generalize chainEnd self msg V g (Ps.map (·.toPassT)) = E at f1 f4 f5 f6 fc hA' hdg' ⊢
  have hcE : E.1.heap[self]? = some cell := by rw [f1]; exact hcell
  have hcSE : E.1.heap[T.aS]? = some cellS := by rw [f1]; exact hcellS
  have hlt : self < E.1.heap.size := (Array.getElem?_eq_some_iff.mp hcE).1
  have htopE : E.1.topJava?.isSome := hA'.top
  obtain ⟨g₀, hg0⟩ := Option.isSome_iff_exists.mp htopE
  obtain ⟨tl, htl⟩ := State.topJava?_eq_some.mp hg0
  have hlen : E.1.frames.length = (Frame.java E.2 :: E.1.frames.tail).length := by rw [htl]; rfl
  have hlimE : e.platform.stackLimits E.1.me = lim := by rw [f4]; exact hlim
  have hfE : ∀ vm, ((E.1.setVm vm).setTop E.2).frames = .java E.2 :: E.1.frames.tail := fun vm => by
    rw [State.frames_setTop _ (show (E.1.setVm vm).frames = .java g₀ :: tl from htl), htl]; rfl
  have hroom : e.platform.stackFull (((((E.1.setVm vm1)).setTop E.2).threads[((E.1.setVm vm1).setTop E.2).cur]?).getD { frames := [] }) ((E.1.setVm vm1).setTop E.2).frames 2 = false :=
    roomAbove (pushed := []) (base := .java E.2 :: E.1.frames.tail) (free := 56) (lim := lim) (hfE vm1) (by rw [State.stackLimits_setTop _ (show (E.1.setVm vm1).topJava?.isSome from htopE)]; exact hlimE) (by rw [← hlen]; simp only [List.length_nil]; omega) (by rw [f6]; omega) (by simp only [stackUse_nil]; omega)
  have hfI : ∀ vm, (initSInside (E.1.setVm vm) E.2 T.toThrowableT Z self msg).frames = .java (initSJ T.toThrowableT Z self msg 0 []) :: .java E.2 :: E.1.frames.tail := fun vm => frames_entered (show (E.1.setVm vm).topJava?.isSome from htopE) _
  have htopI : ∀ vm, (initSInside (E.1.setVm vm) E.2 T.toThrowableT Z self msg).topJava?.isSome := fun vm => by rw [State.topJava?_of_frames (hfI vm)]; rfl
  have hlimI : ∀ vm, e.platform.stackLimits (initSInside (E.1.setVm vm) E.2 T.toThrowableT Z self msg).me = lim := fun vm => by
    rw [State.stackLimits_pushFrame, State.stackLimits_setTop _ (show (E.1.setVm vm).topJava?.isSome from htopE)]; exact hlimE
  have hw13 : ∀ pc, (stackUse [Frame.java (initSJ T.toThrowableT Z self msg pc [])]).2 = 13 := fun pc => by
    rw [stackUse_java, stackUse_nil]
    simp [operandWords]
  have hroomO : e.platform.stackFull ((((initSInside (E.1.setVm vm1) E.2 T.toThrowableT Z self msg).setTop (initSJ T.toThrowableT Z self msg 1 [])).threads[((initSInside (E.1.setVm vm1) E.2 T.toThrowableT Z self msg).setTop (initSJ T.toThrowableT Z self msg 1 [])).cur]?).getD { frames := [] })
      ((initSInside (E.1.setVm vm1) E.2 T.toThrowableT Z self msg).setTop (initSJ T.toThrowableT Z self msg 1 [])).frames T.codeObj.maxLocals = false :=
    roomAbove (pushed := [.java (initSJ T.toThrowableT Z self msg 1 [])]) (base := .java E.2 :: E.1.frames.tail) (free := 56) (lim := lim) (State.frames_setTop _ (hfI vm1)) (by rw [State.stackLimits_setTop _ (htopI vm1)]; exact hlimI vm1)
      (by rw [← hlen]; simp only [List.length_cons, List.length_nil]; omega) (by rw [f6]; omega) (by rw [hw13, hobjLocals]; omega)
  have tk : ∀ {f : Field} {v : Value}, Takes s₀ cell f v → Takes s₀ (preparedCellV T.toThrowableT cell self u0 sen) f v := fun h' => ⟨by simpa [preparedCellV, Cell.setSlot] using h'.1, h'.2⟩
  have hv0P : (preparedCellV T.toThrowableT cell self u0 sen).slots[N.fState.slot]? = some (.int 0) := by
    simp [preparedCellV, Cell.setSlot, hneC, hneSt, hneP, hv0]
  have hvSP : (preparedCellV T.toThrowableT cell self u0 sen).slots[T.fStack.slot]? = some u0.v := by
    have h1 : T.fStack.slot < cell.slots.size := htS.1
    simp [preparedCellV, Cell.setSlot, Ne.symm L.stackApartSupp, h1]
  have hcur : E.1.cur = V.cur := fc
  have hIvm : ∀ v1 v2, ((initSInside (E.1.setVm v1) E.2 T.toThrowableT Z self msg).setCell self (preparedCellV T.toThrowableT cell self u0 sen)).setVm v2 = (initSInside (E.1.setVm v2) E.2 T.toThrowableT Z self msg).setCell self (preparedCellV T.toThrowableT cell self u0 sen) := fun _ _ => rfl
  obtain ⟨vm2, hW2, st⟩ := Steps.throwableInitSColdByV p (V := E.1.setVm vm1) (g := E.2) (self := self) hA' hexec T L Z LZ M LM hW1 (F := fun u => u.setCell self (npeBareV T.toThrowableT N.toNpeT cell self u0 sen)) (heapOnly_id.thenSetCell self _) (fun _ _ => rfl) (u0 := u0) (sen := sen) hmsg
    (cell := cell) (cF := npeBareV T.toThrowableT N.toNpeT cell self u0 sen) hcE hknown (fun u hu => heapAt_setCell_self _ (Array.getElem?_eq_some_iff.mp hu).1) rfl rfl (by simp [npeBareV, preparedCellV, Cell.setSlot]) htM hdg' (mSel := N.fill) (methSel := N.methFill) (kSel := N.kN) hobj hselF LN.method LN.fillAbstract LN.cls LN.notInterface
    (fun v1 hv1 hAt => by
      have hPc : ((initSInside (E.1.setVm v1) E.2 T.toThrowableT Z self msg).setCell self (preparedCellV T.toThrowableT cell self u0 sen)).heap[self]? = some (preparedCellV T.toThrowableT cell self u0 sen) := heapAt_setCell_self (s := initSInside (E.1.setVm v1) E.2 T.toThrowableT Z self msg) _ hlt
      have hPS : ((initSInside (E.1.setVm v1) E.2 T.toThrowableT Z self msg).setCell self (preparedCellV T.toThrowableT cell self u0 sen)).heap[T.aS]? = some cellS := by
        rw [heapAt_setCell_ne _ (Ne.symm hneS)]; exact hcSE
      have hPcur : ((initSInside (E.1.setVm v1) E.2 T.toThrowableT Z self msg).setCell self (preparedCellV T.toThrowableT cell self u0 sen)).cur = V.cur := hcur
      obtain ⟨v2, hv2, st2⟩ := vn_fill p (V := (initSInside (E.1.setVm v1) E.2 T.toThrowableT Z self msg).setCell self (preparedCellV T.toThrowableT cell self u0 sen)) (g := initSJ T.toThrowableT Z self msg 24 []) (c := Z.code) (self := self) hAt hexec htr T L N LN (show s₀.WarmedH v1 from hv1) (u0 := u0) (cell := preparedCellV T.toThrowableT cell self u0 sen) (cellS := cellS) (kcell := kcell) (ig := .invokevirtual 27) (len := 3)
        hPc hobj hknown hfree hkcell hsel0 hPS hneS hknownS hvU hv0P hneSt hvSP (tk htS) (tk ht1) (by rw [hPcur]; exact hskip) (lim := lim)
        (hlimI v1)
        (by show (initSInside (E.1.setVm v1) E.2 T.toThrowableT Z self msg).frames.length + 2 < lim.1
            rw [hfI v1, List.length_cons, ← hlen]; omega)
        (by show (stackUse (.java (initSJ T.toThrowableT Z self msg 24 []) :: (initSInside (E.1.setVm v1) E.2 T.toThrowableT Z self msg).frames.tail)).2 + 43 ≤ lim.2
            have h13 := hw13 24
            rw [stackUse_java, stackUse_nil] at h13
            rw [hfI v1, List.tail_cons, stackUse_java]
            have h14 : (0, 0).2 + ((initSJ T.toThrowableT Z self msg 24 []).locals.size + 11 + 2 * (initSJ T.toThrowableT Z self msg 24 []).monitorRoom + operandWords (initSJ T.toThrowableT Z self msg 24 []).stack) = 13 := h13
            have h15 : (stackUse (.java E.2 :: E.1.frames.tail)).2 + 56 ≤ lim.2 := by rw [f6]; omega
            simp only at h14 ⊢
            omega)
        (by rw [LZ.bytes]; exact LibCode.Throwable.InitS.at_24)
      refine ⟨v2, hv2, fun t' hs => st2 t' ?_⟩
      rw [hPcur, npeBareV_eq T.toThrowableT N.toNpeT self u0 sen V.cur hfree hcount, hIvm]
      exact hs)
    [] hcSE hneS hknownS hvU hvSen htC htS htP hroom hroomO
  refine ⟨vm2, hW2, fun t' hs => st t' ?_⟩
  rw [setCell_twice, setCell_twice]
  exact hs
end VN
