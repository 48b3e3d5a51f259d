/-! THE COMMON ROWS: the classes, what holds at any place of a walk (KI), before a call (KP), behind it (KB); calls and ends in these words -/
abbrev kCl : List vw_C := [(RX0, TX0, 4), (RX1, TX1, 2), (RX2, TX2, 3), (RX3, TX3, 4)]
/-- the array classes of a world: 0 the rig's levels, 1 to 3 its rows, 4 the law's row -/
def kTy (cy : Nat → ClassId) : List (ClassId × FieldType) := [(cy 0, .object RX0), (cy 1, .int), (cy 2, .int), (cy 3, .int), (cy 4, .int)]
/-- the nest mates' fields that UnwindRig reads -/
def rgN (U : State) : Prop := va_Nw (.fieldLinkNest RX3 80 RX1 "row" "[I" RX3) U ∧ va_Nw (.fieldLinkNest RX3 84 RX1 "made" "I" RX3) U ∧ va_Nw (.fieldLinkNest RX3 45 RX0 "takes" "I" RX3) U ∧ va_Nw (.fieldLinkNest RX3 48 RX0 "then" "I" RX3) U ∧ va_Nw (.fieldLinkNest RX3 51 RX0 "last" "I" RX3) U ∧ va_Nw (.fieldLinkNest RX3 41 RX0 "value" "I" RX3) U
/-- the two statics that a throw reads -/
def rgZ (A : Nat → Prop) (U : State) (H : Heap) : Prop := vx_Zq Bundle.tN "UNASSIGNED_STACK" Bundle.steD A U H ∧ vx_Zq Bundle.tN "SUPPRESSED_SENTINEL" Bundle.listD A U H
/-- the texts of the throws -/
def rgR (U : State) : Prop := (∃ a, vk_R RX3 36 "no such level" a U) ∧ (∃ a, vk_R RX3 139 "a GRIT came out" a U) ∧ (∃ a, vk_R RX3 144 "a SHARD came out" a U) ∧ (∃ a, vk_R RX3 149 "a division by 0 came out" a U) ∧ (∃ a, vk_R RX3 152 "a use of nothing came out" a U) ∧ (∃ a, vk_R RX3 154 "an index beyond its array came out" a U) ∧ (∃ a, vk_R RX3 78 "no such note was kept" a U) ∧ (∃ a, vk_R RX3 101 "no such count" a U)
/-- the words of the throws that a method's own list doesn't carry -/
def nwl : List Cond := [.declares (Bundle.initS "java/lang/IndexOutOfBoundsException"), .declares (Bundle.initS "java/lang/RuntimeException"), .declares (Bundle.initS "java/lang/Exception"), .declares (Bundle.initS "java/lang/Throwable"),
  .castable "java/lang/IllegalStateException" "java/lang/IllegalStateException", .castable "java/lang/UnsupportedOperationException" "java/lang/UnsupportedOperationException", .castable "java/lang/ArithmeticException" "java/lang/ArithmeticException", .castable "java/lang/ArrayIndexOutOfBoundsException" "java/lang/ArrayIndexOutOfBoundsException", .castable "java/lang/NullPointerException" "java/lang/NullPointerException", .castable "java/lang/RuntimeException" "java/lang/Throwable"]
def rgX (U : State) : Prop := ∀ w ∈ nwl, va_Nw w U
theorem rgX.go {s U : State} (h : rgX s) (hW : s.WarmedH U.vm) : rgX U := by
  intro w hw
  have h1 := h w hw
  simp only [nwl, List.mem_cons, List.not_mem_nil, or_false] at hw
  rcases hw with rfl | rfl | rfl | rfl | rfl | rfl | rfl | rfl | rfl | rfl
  · exact h1.warmD hW
  · exact h1.warmD hW
  · exact h1.warmD hW
  · exact h1.warmD hW
  · exact h1.warmC hW
  · exact h1.warmC hW
  · exact h1.warmC hW
  · exact h1.warmC hW
  · exact h1.warmC hW
  · exact h1.warmC hW
/-- what is thrown isn't caught as one of these -/
def ncl : List (String × String) := [("java/lang/IllegalStateException", "java/lang/ArithmeticException"), ("java/lang/UnsupportedOperationException", "java/lang/ArithmeticException"), ("java/lang/UnsupportedOperationException", "java/lang/IllegalStateException"),
  ("java/lang/NullPointerException", "java/lang/ArithmeticException"), ("java/lang/NullPointerException", "java/lang/IllegalStateException"), ("java/lang/NullPointerException", "java/lang/UnsupportedOperationException"),
  ("java/lang/ArrayIndexOutOfBoundsException", "java/lang/ArithmeticException"), ("java/lang/ArrayIndexOutOfBoundsException", "java/lang/IllegalStateException"), ("java/lang/ArrayIndexOutOfBoundsException", "java/lang/UnsupportedOperationException"), ("java/lang/ArrayIndexOutOfBoundsException", "java/lang/NullPointerException")]
def rgC (U : State) : Prop := ∀ q ∈ ncl, va_Nc q.1 q.2 U
/-- what UnwindRig's constructor links of its nest mates, and its row of levels -/
def rgM (U : State) : Prop := va_Nw (.methodLinkNest RX3 17 yX1_init RX3) U ∧ va_Nw (.methodLinkNest RX3 24 yX2_init RX3) U ∧ va_Nw (.methodLinkNest RX3 29 yX0_init RX3) U ∧ va_AO RX0 U
def rgE (A : Nat → Prop) (U : State) : Prop := rgN U ∧ rgZ A U U.heap ∧ rgR U ∧ rgX U ∧ rgC U ∧ rgM U
theorem rgE.go {A : Nat → Prop} {s U : State} {locs : List Loc} (h : rgE A s) (hW : s.WarmedH U.vm) (hS : va_S A s.heap U.heap locs) : rgE A U := by
  obtain ⟨⟨n1, n2, n3, n4, n5, n6⟩, ⟨z1, z2⟩, ⟨⟨a1, r1⟩, ⟨a2, r2⟩, ⟨a3, r3⟩, ⟨a4, r4⟩, ⟨a5, r5⟩, ⟨a6, r6⟩, ⟨a7, r7⟩, ⟨a8, r8⟩⟩, hx, hc, m1, m2, m3, m4⟩ := h
  exact ⟨⟨n1.warmF hW, n2.warmF hW, n3.warmF hW, n4.warmF hW, n5.warmF hW, n6.warmF hW⟩, ⟨(z1.kept hS.2.1).moved hW.alike, (z2.kept hS.2.1).moved hW.alike⟩,
    ⟨⟨a1, r1.warm hW⟩, ⟨a2, r2.warm hW⟩, ⟨a3, r3.warm hW⟩, ⟨a4, r4.warm hW⟩, ⟨a5, r5.warm hW⟩, ⟨a6, r6.warm hW⟩, ⟨a7, r7.warm hW⟩, ⟨a8, r8.warm hW⟩⟩, hx.go hW, fun q hq => (hc q hq).moved hW.alike, m1.warmM hW, m2.warmM hW, m3.warmM hW, va_AO.moved hW.alike m4⟩
def KP (D : va_G) (cy : Nat → ClassId) (A : Nat → Prop) (ww : va_W) (U : State) : Prop := (∀ q, U.heap.size ≤ q → A q) ∧ va_P D kCl ww U.heap ∧ va_K D kCl (kTy cy) U ∧ va_D A ww ∧ rgE A U
def KB (D : va_G) (cy : Nat → ClassId) (A : Nat → Prop) (ww : va_W) (t : State) : Prop := va_P D kCl ww t.heap ∧ va_K D kCl (kTy cy) t ∧ va_D A ww
def KI (D : va_G) (cy : Nat → ClassId) (A : Nat → Prop) (ww : va_W) (s : State) (H : Heap) (locs : List Loc) : Prop := va_K D kCl (kTy cy) s ∧ rgE A s ∧ (∀ q, s.heap.size ≤ q → A q) ∧ va_P D kCl ww H ∧ va_D A ww ∧ va_S A s.heap H locs
theorem KP_blind {D : va_G} {cy : Nat → ClassId} {A : Nat → Prop} {ww : va_W} {av : List Value} : FrameBlind (va_Pc av (KP D cy A ww)) := by
  intro a U g mk q
  obtain ⟨q0, h1, h2, h3, h4, h5⟩ := q
  exact ⟨q0, h1, h2, va_K.moved (u := U) (U := U.calling g mk a) (Vm.Alike.refl U.vm) h3, h4, rgE.go (U := U.calling g mk a) h5 (State.WarmedH.refl U) va_S.rf⟩
theorem KI.pre {D : va_G} {cy : Nat → ClassId} {A : Nat → Prop} {ww : va_W} {s : State} {H : Heap} {locs : List Loc} (I : KI D cy A ww s H locs) {U : State} (hU : U.heap = H) (hW : s.WarmedH U.vm) : KP D cy A ww U := by
  obtain ⟨h1, h2, h3, h4, h5, h6⟩ := I
  subst hU
  exact ⟨fun q h => h3 q (Nat.le_trans h6.1 h), h4, va_K.moved hW.alike h1, h5, h2.go hW h6⟩
theorem KI.post {D : va_G} {cy : Nat → ClassId} {A : Nat → Prop} {ww w1 : va_W} {s t : State} {H H1 : Heap} {locs locs1 : List Loc} (I : KI D cy A ww s H locs) (ht : t.heap = H1) (hB : KB D cy A w1 t) (hS : va_S A s.heap H1 locs1) : KI D cy A w1 s H1 locs1 := by
  obtain ⟨h1, h2, h3, h4, h5, h6⟩ := I
  subst ht
  exact ⟨h1, h2, h3, hB.1, hB.2.2, hS⟩
theorem KI.to {D : va_G} {cy : Nat → ClassId} {A : Nat → Prop} {ww w1 : va_W} {s : State} {H : Heap} {locs : List Loc} (I : KI D cy A ww s H locs) (h : ww = w1) : KI D cy A w1 s H locs := h ▸ I
theorem KI.sub {D : va_G} {cy : Nat → ClassId} {A : Nat → Prop} {ww w1 : va_W} {s : State} {H : Heap} {locs : List Loc} (I : KI D cy A ww s H locs) (is : List Nat) (hn : va_nd is = true) (h1 : is.filterMap (fun i => ww[i]?) = w1) (h2 : is.map (fun i => ww[i]?) = w1.map some) : KI D cy A w1 s H locs :=
  ⟨I.1, I.2.1, I.2.2.1, I.2.2.2.1.sub is h1, I.2.2.2.2.1.sub is hn h2, I.2.2.2.2.2⟩
/-- a method's body, from its entry -/
theorem k_open {l : Launch} {y : MethodName} {ws ws' : List Cond} {rm : Room} {Qc : Array Value → State → Outcome → State → Prop} {mc ms : Nat} {A : Nat → Prop} {cc : ByteArray} {maxL : Nat} {ret : Option FieldType} {D : va_G} {cy : Nat → ClassId} {ww : va_W} {av : List Value} {own : String}
    (hy : plainName y.cls = true) (hw : ws = Cond.code y cc maxL ret :: ws') (hown : y.cls = own) (hsz : (lg_sl av).length ≤ maxL)
    (body : ∀ p e s m args below meth c, CallFix p m c cc maxL s args ws own → meth.sig.returnType = ret → meth.locks = false → KI D cy A ww s s.heap [] → ∀ ls, lv_has ls maxL (lv_args 0 av) → W p l e rm s m args below meth c s.heap [] 0 0 (MQ below Qc args s mc ms A) (F0 m 0 ls [])) : Met l y ws rm (va_Pc av (KP D cy A ww)) Qc mc ms A := by
  refine Met.ofW (cc := cc) (maxL := maxL) (ret := ret) hy hw ?_
  intro p e s m args below meth c s₁ B hml hv
  obtain ⟨rfl, hA, hP, hK, hD, hE⟩ := hv
  rw [lg_entry_eq]
  exact body p e s m _ below meth c ⟨B.exec, B.bytes, hml, hown ▸ findClass_of_methodNamed B.named, atoms_spec (ws := ws) B.pre⟩ B.returns B.notSynchronized ⟨hK, hE, hA, hP, hD, va_S.rf⟩ _ (lv_entry av hsz)
section KR
variable {p : Program} {l : Launch} {e : Env} {R : Room} {s : State} {m : MethodId} {args : Array Value} {below : List Frame} {meth : Method} {c : Code} {H : Heap} {locs : List Loc} {cells slots : Nat} {Q : State → Prop}
variable {cc : ByteArray} {nL : Nat} {Ts : List Cond} {own : String} {D : va_G} {cy : Nat → ClassId} {A : Nat → Prop} {ww w1 : va_W} {pc : Nat} {ls : Array Slot} {rest st0 : List Value}
-- ends
theorem k_iret {v G : Int32} (S : CallFix p m c cc nL s args Ts own) (hr : meth.sig.returnType = some .int) (hlk : meth.locks = false) (I : KI D cy A ww s H locs) (hv : v = G) (hw : ww = w1) (d : decode cc pc = .ok (.ireturn, 1)) :
    W p l e R s m args below meth c H locs cells slots (MQ below (va_Qi (fun (r : Int32) (_ : Unit) => r = G) (fun _ => KB D cy A w1) A) args s cells slots A) (F0 m pc ls [.int v]) := by
  obtain ⟨h1, h2, h3, h4, h5, h6⟩ := I
  subst hw
  exact W.iret (v := v) S.1 S.2.1 hr (fun t ht hW => ⟨⟨v, (), rfl, hv, by rw [ht]; exact h4, va_K.moved hW.alike h1, h5⟩, h6.F ht⟩) h6.2.2 d hlk
theorem k_zret {v G : Int32} (S : CallFix p m c cc nL s args Ts own) (hr : meth.sig.returnType = some .boolean) (hlk : meth.locks = false) (I : KI D cy A ww s H locs) (hz : narrow .boolean (.int v) = .int v) (hv : v = G) (hw : ww = w1) (d : decode cc pc = .ok (.ireturn, 1)) :
    W p l e R s m args below meth c H locs cells slots (MQ below (va_Qi (fun (r : Int32) (_ : Unit) => r = G) (fun _ => KB D cy A w1) A) args s cells slots A) (F0 m pc ls [.int v]) := by
  obtain ⟨h1, h2, h3, h4, h5, h6⟩ := I
  subst hw
  exact W.zret (v := v) (ty := .boolean) S.1 S.2.1 hr hz (fun t ht hW => ⟨⟨v, (), rfl, hv, by rw [ht]; exact h4, va_K.moved hW.alike h1, h5⟩, h6.F ht⟩) h6.2.2 d hlk
theorem k_lret {v G : Int64} (S : CallFix p m c cc nL s args Ts own) (hr : meth.sig.returnType = some .long) (hlk : meth.locks = false) (I : KI D cy A ww s H locs) (hv : v = G) (hw : ww = w1) (d : decode cc pc = .ok (.lreturn, 1)) :
    W p l e R s m args below meth c H locs cells slots (MQ below (va_Ql (fun (r : Int64) (_ : Unit) => r = G) (fun _ => KB D cy A w1) A) args s cells slots A) (F0 m pc ls [.long v]) := by
  obtain ⟨h1, h2, h3, h4, h5, h6⟩ := I
  subst hw
  exact W.lret (v := v) S.1 S.2.1 hr (fun t ht hW => ⟨⟨v, (), rfl, hv, by rw [ht]; exact h4, va_K.moved hW.alike h1, h5⟩, h6.F ht⟩) h6.2.2 d hlk
theorem k_vret (S : CallFix p m c cc nL s args Ts own) (hr : meth.sig.returnType = none) (hlk : meth.locks = false) (I : KI D cy A ww s H locs) (hw : ww = w1) (d : decode cc pc = .ok (.return_, 1)) :
    W p l e R s m args below meth c H locs cells slots (MQ below (va_Qv (fun (_ : Unit) => True) (fun _ => KB D cy A w1) A) args s cells slots A) (F0 m pc ls []) := by
  obtain ⟨h1, h2, h3, h4, h5, h6⟩ := I
  subst hw
  exact W.vret S.1 S.2.1 hr (fun t ht hW => ⟨⟨(), rfl, trivial, by rw [ht]; exact h4, va_K.moved hW.alike h1, h5⟩, h6.F ht⟩) h6.2.2 d hlk
-- calls
section KV
variable {C : String} {index maxL mc ms n : Nat} {y : MethodName} {bytes : ByteArray} {ret : Option FieldType} {ws : List Cond} {rm : Room} {b : Addr} {As : List Value} {q0 ci : Nat} {fs : List Value} {q : vw_C}
theorem k_Vv (S : CallFix p m c cc nL s args Ts own) (I : KI D cy A ww s H locs) (hM : Met l y ws rm (va_Pc (.ref b :: As) (KP D cy A ww)) (va_Qv (fun (_ : Unit) => True) (fun _ => KB D cy A w1) A) mc ms A)
    (cw : CallW R s args own C index y bytes maxL ret ws rm mc ms n) (hq : ww[q0]? = some (b, .inr (ci, fs))) (hc : kCl[ci]? = some q) (hC : q.1 = C) (hn : As.length = n) (hl : ls.size = nL) (hst : st0 = As.reverse ++ .ref b :: rest) (hr : (rest.map fun v => v.category).sum ≤ 8) (d : decode cc pc = .ok (.invokevirtual index, 3)) (hf : cells + mc ≤ R.cells ∧ slots + ms ≤ R.slots)
    (kk : ∀ (H1 : Heap) (locs1 : List Loc), KI D cy A w1 s H1 locs1 → W p l e R s m args below meth c H1 locs1 (cells + mc) (slots + ms) Q (F0 m (pc + 3) ls rest)) : W p l e R s m args below meth c H locs cells slots Q (F0 m pc ls st0) := by
  have hI := I
  obtain ⟨h1, h2, h3, h4, h5, h6⟩ := I
  refine va_callv (va_runV (As := As) (rest := rest) S hM cw ⟨KP_blind, hC ▸ va_recv h1 h4 hc hq, fun U hU hW => ⟨rfl, hI.pre hU hW⟩⟩ rfl hn hl hst (lv_room (m := m) (pc := pc) (ls := ls) (rest := st0) hr) d hf) h6 (fun _ _ h => h) (fun _ h => h) (fun u t H1 locs1 ht hvm hw hB hz1 hk1 hS1 => ?_)
  exact kk H1 locs1 (hI.post ht hB hS1)
theorem k_Vi {G : Int32} (S : CallFix p m c cc nL s args Ts own) (I : KI D cy A ww s H locs) (hM : Met l y ws rm (va_Pc (.ref b :: As) (KP D cy A ww)) (va_Qi (fun (r : Int32) (_ : Unit) => r = G) (fun _ => KB D cy A w1) A) mc ms A)
    (cw : CallW R s args own C index y bytes maxL ret ws rm mc ms n) (hq : ww[q0]? = some (b, .inr (ci, fs))) (hc : kCl[ci]? = some q) (hC : q.1 = C) (hn : As.length = n) (hl : ls.size = nL) (hst : st0 = As.reverse ++ .ref b :: rest) (hr : (rest.map fun v => v.category).sum ≤ 8) (d : decode cc pc = .ok (.invokevirtual index, 3)) (hf : cells + mc ≤ R.cells ∧ slots + ms ≤ R.slots)
    (kk : ∀ (H1 : Heap) (locs1 : List Loc), KI D cy A w1 s H1 locs1 → W p l e R s m args below meth c H1 locs1 (cells + mc) (slots + ms) Q (F0 m (pc + 3) ls (.int G :: rest))) : W p l e R s m args below meth c H locs cells slots Q (F0 m pc ls st0) := by
  have hI := I
  obtain ⟨h1, h2, h3, h4, h5, h6⟩ := I
  refine va_calli (va_runV (As := As) (rest := rest) S hM cw ⟨KP_blind, hC ▸ va_recv h1 h4 hc hq, fun U hU hW => ⟨rfl, hI.pre hU hW⟩⟩ rfl hn hl hst (lv_room (m := m) (pc := pc) (ls := ls) (rest := st0) hr) d hf) h6 (fun _ _ h => h) (fun _ h => h) (fun r u t H1 locs1 ht hvm hw hB hz1 hk1 hS1 => ?_)
  subst hw
  exact kk H1 locs1 (hI.post ht hB hS1)
theorem k_Vl {G : Int64} (S : CallFix p m c cc nL s args Ts own) (I : KI D cy A ww s H locs) (hM : Met l y ws rm (va_Pc (.ref b :: As) (KP D cy A ww)) (va_Ql (fun (r : Int64) (_ : Unit) => r = G) (fun _ => KB D cy A w1) A) mc ms A)
    (cw : CallW R s args own C index y bytes maxL ret ws rm mc ms n) (hq : ww[q0]? = some (b, .inr (ci, fs))) (hc : kCl[ci]? = some q) (hC : q.1 = C) (hn : As.length = n) (hl : ls.size = nL) (hst : st0 = As.reverse ++ .ref b :: rest) (hr : (rest.map fun v => v.category).sum ≤ 8) (d : decode cc pc = .ok (.invokevirtual index, 3)) (hf : cells + mc ≤ R.cells ∧ slots + ms ≤ R.slots)
    (kk : ∀ (H1 : Heap) (locs1 : List Loc), KI D cy A w1 s H1 locs1 → W p l e R s m args below meth c H1 locs1 (cells + mc) (slots + ms) Q (F0 m (pc + 3) ls (.long G :: rest))) : W p l e R s m args below meth c H locs cells slots Q (F0 m pc ls st0) := by
  have hI := I
  obtain ⟨h1, h2, h3, h4, h5, h6⟩ := I
  refine va_calll (va_runV (As := As) (rest := rest) S hM cw ⟨KP_blind, hC ▸ va_recv h1 h4 hc hq, fun U hU hW => ⟨rfl, hI.pre hU hW⟩⟩ rfl hn hl hst (lv_room (m := m) (pc := pc) (ls := ls) (rest := st0) hr) d hf) h6 (fun _ _ h => h) (fun _ h => h) (fun r u t H1 locs1 ht hvm hw hB hz1 hk1 hS1 => ?_)
  subst hw
  exact kk H1 locs1 (hI.post ht hB hS1)
theorem k_Si {G : Int32} (S : CallFix p m c cc nL s args Ts own) (I : KI D cy A ww s H locs) (hM : Met l y ws rm (va_Pc As (KP D cy A ww)) (va_Qi (fun (r : Int32) (_ : Unit) => r = G) (fun _ => KB D cy A w1) A) mc ms A)
    (cw : CallB R s args own index y bytes maxL ret ws rm mc ms n ∧ (Cond.static y).before args s = true) (hn : As.length = n) (hl : ls.size = nL) (hst : st0 = As.reverse ++ rest) (hr : (rest.map fun v => v.category).sum ≤ 8) (d : decode cc pc = .ok (.invokestatic index, 3)) (hf : cells + mc ≤ R.cells ∧ slots + ms ≤ R.slots)
    (kk : ∀ (H1 : Heap) (locs1 : List Loc), KI D cy A w1 s H1 locs1 → W p l e R s m args below meth c H1 locs1 (cells + mc) (slots + ms) Q (F0 m (pc + 3) ls (.int G :: rest))) : W p l e R s m args below meth c H locs cells slots Q (F0 m pc ls st0) := by
  have hI := I
  obtain ⟨h1, h2, h3, h4, h5, h6⟩ := I
  refine va_calli (va_runS (As := As) (rest := rest) S hM cw ⟨KP_blind, fun U hU hW => ⟨rfl, hI.pre hU hW⟩⟩ rfl hn hl hst (lv_room (m := m) (pc := pc) (ls := ls) (rest := st0) hr) d hf) h6 (fun _ _ h => h) (fun _ h => h) (fun r u t H1 locs1 ht hvm hw hB hz1 hk1 hS1 => ?_)
  subst hw
  exact kk H1 locs1 (hI.post ht hB hS1)
end KV
-- fields and rows
section KF
variable {ref C : String} {T : u_T} {N ci index : Nat} {a : Addr} {fs : List Value} {q0 k : Nat} {v : Value}
theorem k_get (S : CallFix p m c cc nL s args Ts own) (I : KI D cy A ww s H locs) (hin : ∀ w ∈ u_ws C T N, w ∈ Ts) (he : ww[q0]? = some (a, .inr (ci, fs))) (hc : kCl[ci]? = some (C, T, N)) (hk : k < N) (hlink : Cond.fieldLink own index (T k).1 (T k).2.1 (T k).2.2.1 ∈ Ts) (hv : fs[k]? = some v) (d : decode cc pc = .ok (.getfield index, 3))
    (kk : W p l e R s m args below meth c H locs cells slots Q (F0 m (pc + 3) ls (v :: rest))) : W p l e R s m args below meth c H locs cells slots Q (F0 m pc ls (.ref a :: rest)) :=
  va_get S.1 S.2.1 S.2.2.2.2 hin S.2.2.2.1 I.1 I.2.2.2.1 q0 he hc k hk (S.2.2.2.2 _ hlink) (fun _ h => h) hv d kk
theorem k_getN {host : String} (S : CallFix p m c cc nL s args Ts own) (I : KI D cy A ww s H locs) (hin : ∀ w ∈ u_ws C T N, w ∈ Ts) (he : ww[q0]? = some (a, .inr (ci, fs))) (hc : kCl[ci]? = some (C, T, N)) (hk : k < N) (hlink : va_Nw (Cond.fieldLinkNest own index (T k).1 (T k).2.1 (T k).2.2.1 host) s) (hv : fs[k]? = some v) (d : decode cc pc = .ok (.getfield index, 3))
    (kk : W p l e R s m args below meth c H locs cells slots Q (F0 m (pc + 3) ls (v :: rest))) : W p l e R s m args below meth c H locs cells slots Q (F0 m pc ls (.ref a :: rest)) :=
  va_getN S.1 S.2.1 S.2.2.2.2 hin S.2.2.2.1 I.1 I.2.2.2.1 q0 he hc k hk (va_Nw.use rfl hlink) (fun _ h => h) hv d kk
theorem k_put {ty : FieldType} (S : CallFix p m c cc nL s args Ts own) (I : KI D cy A ww s H locs) (hin : ∀ w ∈ u_ws C T N, w ∈ Ts) (ty0 : Nat → FieldType) (hty : ∀ k, k < N → parseFieldDescriptor (T k).2.2.1 = some (ty0 k)) (hnm : ∀ a, a < N → ∀ b, b < N → a ≠ b → (T a).2.1 ≠ (T b).2.1) (he : ww[q0]? = some (a, .inr (ci, fs))) (hc : kCl[ci]? = some (C, T, N)) (hk : k < N) (hlink : Cond.fieldLink own index (T k).1 (T k).2.1 (T k).2.2.1 ∈ Ts) (hfin : (T k).2.2.2 = false) (htk : ty0 k = ty) (hn : narrow ty v = v) (hfit : fits ty v = true) (hl : k < fs.length) (hw : ww.set q0 (a, .inr (ci, fs.set k v)) = w1) (d : decode cc pc = .ok (.putfield index, 3))
    (kk : ∀ (H1 : Heap) (locs1 : List Loc), KI D cy A w1 s H1 locs1 → W p l e R s m args below meth c H1 locs1 cells slots Q (F0 m (pc + 3) ls rest)) : W p l e R s m args below meth c H locs cells slots Q (F0 m pc ls (v :: .ref a :: rest)) := by
  subst hw
  exact va_put S.1 S.2.1 S.2.2.2.2 hin ty0 hty hnm S.2.2.2.1 I.1 I.2.2.2.1 I.2.2.2.2.1 I.2.2.2.2.2 q0 he hc k hk (S.2.2.2.2 _ hlink) (fun _ h => h) hfin (htk ▸ hty k hk) hn hfit hl d (fun H1 locs1 hP hD hS => kk H1 locs1 ⟨I.1, I.2.1, I.2.2.1, hP, hD, hS⟩)
theorem k_putN {ty : FieldType} {host : String} (S : CallFix p m c cc nL s args Ts own) (I : KI D cy A ww s H locs) (hin : ∀ w ∈ u_ws C T N, w ∈ Ts) (ty0 : Nat → FieldType) (hty : ∀ k, k < N → parseFieldDescriptor (T k).2.2.1 = some (ty0 k)) (hnm : ∀ a, a < N → ∀ b, b < N → a ≠ b → (T a).2.1 ≠ (T b).2.1) (he : ww[q0]? = some (a, .inr (ci, fs))) (hc : kCl[ci]? = some (C, T, N)) (hk : k < N) (hlink : va_Nw (Cond.fieldLinkNest own index (T k).1 (T k).2.1 (T k).2.2.1 host) s) (hfin : (T k).2.2.2 = false) (htk : ty0 k = ty) (hn : narrow ty v = v) (hfit : fits ty v = true) (hl : k < fs.length) (hw : ww.set q0 (a, .inr (ci, fs.set k v)) = w1) (d : decode cc pc = .ok (.putfield index, 3))
    (kk : ∀ (H1 : Heap) (locs1 : List Loc), KI D cy A w1 s H1 locs1 → W p l e R s m args below meth c H1 locs1 cells slots Q (F0 m (pc + 3) ls rest)) : W p l e R s m args below meth c H locs cells slots Q (F0 m pc ls (v :: .ref a :: rest)) := by
  subst hw
  exact va_putN S.1 S.2.1 S.2.2.2.2 hin ty0 hty hnm S.2.2.2.1 I.1 I.2.2.2.1 I.2.2.2.2.1 I.2.2.2.2.2 q0 he hc k hk (va_Nw.use rfl hlink) (fun _ h => h) hfin (htk ▸ hty k hk) hn hfit hl d (fun H1 locs1 hP hD hS => kk H1 locs1 ⟨I.1, I.2.1, I.2.2.1, hP, hD, hS⟩)
theorem k_iald {cA : ClassId} {n t0 j : Nat} {f : Nat → Int32} {i x : Int32} (S : CallFix p m c cc nL s args Ts own) (I : KI D cy A ww s H locs) (ha : ww[q0]? = some (a, .inl (cA, n, .inl f))) (ht : (kTy cy)[t0]? = some (cA, .int)) (hj : j < n) (hn : n < 2 ^ 31) (hi : i = nI j) (hx : f j = x) (d : decode cc pc = .ok (.iaload, 1))
    (kk : W p l e R s m args below meth c H locs cells slots Q (F0 m (pc + 1) ls (.int x :: rest))) : W p l e R s m args below meth c H locs cells slots Q (F0 m pc ls (.int i :: .ref a :: rest)) := by
  subst hi; subst hx
  refine va_iald S.1 S.2.1 I.1 I.2.2.2.1 q0 t0 ha ht (vp_in_nI hj hn) d ?_
  rw [nI_clamp (by omega)]
  exact kk
theorem k_iast {cA : ClassId} {n t0 j : Nat} {f : Nat → Int32} {i x : Int32} (S : CallFix p m c cc nL s args Ts own) (I : KI D cy A ww s H locs) (ha : ww[q0]? = some (a, .inl (cA, n, .inl f))) (ht : (kTy cy)[t0]? = some (cA, .int)) (hj : j < n) (hn : n < 2 ^ 31) (hi : i = nI j) (hw : ww.set q0 (a, .inl (cA, n, .inl (upd f j x))) = w1) (d : decode cc pc = .ok (.iastore, 1))
    (kk : ∀ (H1 : Heap) (locs1 : List Loc), KI D cy A w1 s H1 locs1 → W p l e R s m args below meth c H1 locs1 cells slots Q (F0 m (pc + 1) ls rest)) : W p l e R s m args below meth c H locs cells slots Q (F0 m pc ls (.int x :: .int i :: .ref a :: rest)) := by
  subst hi; subst hw
  refine va_iast S.1 S.2.1 I.1 I.2.2.2.1 I.2.2.2.2.1 I.2.2.2.2.2 q0 t0 ha ht (vp_in_nI hj hn) d (fun H1 locs1 hP hD hS => ?_)
  rw [nI_clamp (by omega)] at hP hD
  exact kk H1 locs1 ⟨I.1, I.2.1, I.2.2.1, hP, hD, hS⟩
theorem k_aald {cA : ClassId} {E : String} {n t0 j b : Nat} {f : Nat → Option Nat} {i : Int32} (S : CallFix p m c cc nL s args Ts own) (I : KI D cy A ww s H locs) (ha : ww[q0]? = some (a, .inl (cA, n, .inr (.inr (.inr (.inr f)))))) (ht : (kTy cy)[t0]? = some (cA, .object E)) (hj : j < n) (hn : n < 2 ^ 31) (hi : i = nI j) (hx : f j = some b) (d : decode cc pc = .ok (.aaload, 1))
    (kk : W p l e R s m args below meth c H locs cells slots Q (F0 m (pc + 1) ls (.ref b :: rest))) : W p l e R s m args below meth c H locs cells slots Q (F0 m pc ls (.int i :: .ref a :: rest)) := by
  subst hi
  refine va_aldq S.1 S.2.1 I.1 I.2.2.2.1 q0 t0 ha ht (vp_in_nI hj hn) d ?_
  rw [nI_clamp (by omega), hx]
  exact kk
end KF
end KR
