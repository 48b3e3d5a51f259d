/-! METHODS THAT THROW, AND THOSE THAT CATCH: their bodies, ends and calls, in the words of part 05 -/
/-- what holds where E was thrown -/
def KX (D : va_G) (cy : Nat → ClassId) (A : Nat → Prop) (ww : va_W) (E : String) : String → State → State → Prop := vx_X (fun (_ : Unit) => True) (fun E1 _ t => E1 = E ∧ KB D cy A ww t) A
theorem k_openX {l : Launch} {y : MethodName} {ws ws' : List Cond} {rm : Room} {Qc : Array Value → State → Outcome → State → Prop} {XC : String → State → State → Prop} {mc ms : Nat} {A : Nat → Prop} {cc : ByteArray} {maxL : Nat} {ret : Option FieldType} {D : va_G} {cy : Nat → ClassId} {ww : va_W} {av : List Value} {own : String}
    (hy : plainName y.cls = true) (hw : ws = Cond.code y cc maxL ret :: ws') (hown : y.cls = own) (hsz : (lg_sl av).length ≤ maxL)
    (body : ∀ p e s m args below meth c, CallFix p m c cc maxL s args ws own → meth.sig.returnType = ret → meth.locks = false → (∀ x ∈ c.exceptionTable.toList, False) → KI D cy A ww s s.heap [] → ∀ ls, lv_has ls maxL (lv_args 0 av) → W p l e rm s m args below meth c s.heap [] 0 0 (vx_MQ below Qc XC args s mc ms A) (F0 m 0 ls [])) : vx_Met l y ws rm (va_Pc av (KP D cy A ww)) Qc XC mc ms A := by
  refine vx_ofW (cc := cc) (maxL := maxL) (ret := ret) hy hw ?_
  intro p e s m args below meth c s₁ B hml htab hv
  obtain ⟨rfl, hA, hP, hK, hD, hE⟩ := hv
  rw [lg_entry_eq]
  exact body p e s m _ below meth c ⟨B.exec, B.bytes, hml, hown ▸ findClass_of_methodNamed B.named, atoms_spec (ws := ws) B.pre⟩ B.returns B.notSynchronized htab ⟨hK, hE, hA, hP, hD, va_S.rf⟩ _ (lv_entry av hsz)
/-- a method with handlers, out of which nothing comes -/
theorem k_openH {l : Launch} {y : MethodName} {ws ws' : List Cond} {rm : Room} {Qc : Array Value → State → Outcome → State → Prop} {mc ms : Nat} {A : Nat → Prop} {cc : ByteArray} {maxL : Nat} {ret : Option FieldType} {hh : List (Nat × Nat × Nat × Nat)} {D : va_G} {cy : Nat → ClassId} {ww : va_W} {av : List Value} {own : String}
    (hy : plainName y.cls = true) (hw : ws = Cond.codeWith y cc maxL ret hh :: ws') (hown : y.cls = own) (hsz : (lg_sl av).length ≤ maxL)
    (body : ∀ p e s m args below meth c, CallFix p m c cc maxL s args ws own → meth.sig.returnType = ret → meth.locks = false → c.exceptionTable.toList = tableOf hh → KI D cy A ww s s.heap [] → ∀ ls, lv_has ls maxL (lv_args 0 av) → W p l e rm s m args below meth c s.heap [] 0 0 (MQ below Qc args s mc ms A) (F0 m 0 ls [])) : Met l y ws rm (va_Pc av (KP D cy A ww)) Qc mc ms A := by
  refine MetFree.of_bodyS (code := cc) (maxLocals := maxL) (ret := ret) hy ?_ ?_
  · intro args s m h hn
    obtain ⟨m9, meth, c, hn9, h1, h2, h3, h4, -, h5, h6, -⟩ := Cond.codeWith_spec (atoms_spec (ws := ws) h _ (by rw [hw]; exact List.mem_cons_self))
    cases hn.symm.trans hn9
    exact ⟨meth, c, h1, h2, h3, h4, h5, h6⟩
  · intro p e s m args below meth c s₁ B hml hv _
    have hh0 : s₁.heap = s.heap := by rw [B.state]; rfl
    have htab := vx_table (x := y) (hh := hh) B (atoms_spec (ws := ws) B.pre _ (by rw [hw]; exact List.mem_cons_self))
    obtain ⟨rfl, hA, hP, hK, hD, hE⟩ := hv
    have k := body p e s m _ below meth c ⟨B.exec, B.bytes, hml, hown ▸ findClass_of_methodNamed B.named, atoms_spec (ws := ws) B.pre⟩ B.returns B.notSynchronized htab ⟨hK, hE, hA, hP, hD, va_S.rf⟩ _ (lv_entry av hsz)
    rw [← lg_entry_eq] at k
    obtain ⟨t, a1, o, b1, b2, b3⟩ := k s₁ hh0 (Stand.of_body B)
    exact ⟨t, o, a1, b1, b2, b3⟩
section KT
variable {p : Program} {l : Launch} {e : Env} {R : Room} {s : State} {m : MethodId} {args : Array Value} {below : List Frame} {meth : Method} {c : Code} {H : Heap} {locs : List Loc} {cells slots : Nat} {Q : State → Prop}
variable {cc : ByteArray} {nL : Nat} {Ts : List Cond} {own : String} {D : va_G} {cy : Nat → ClassId} {A : Nat → Prop} {ww w1 w2 : va_W} {pc : Nat} {ls : Array Slot} {rest st0 : List Value}
theorem KI.thrown (I : KI D cy A ww s H locs) {E : String} {t : State} (hvm : s.vm.Alike t.vm) (hz : H.size ≤ t.heap.size) (hk : ∀ q : Nat, q < H.size → t.heap[q]? = H[q]?) : KX D cy A ww E E s t := by
  obtain ⟨h1, h2, h3, h4, h5, h6⟩ := I
  refine ⟨(), trivial, ⟨rfl, h4.kept (fun k x hx => hk x.1 ((h4 k x hx).lt)), va_K.moved hvm h1, h5⟩, Nat.le_trans h6.1 hz, fun q q1 q2 => ?_⟩
  rw [hk q (Nat.lt_of_lt_of_le q1 h6.1)]
  exact h6.2.1 q q1 q2
/-- an exception with a text is thrown here -/
theorem k_throwS {Qc : Array Value → State → Outcome → State → Prop} {E text : String} {names : List String} {ik is ic mc ms sa : Nat} (S : CallFix p m c cc nL s args Ts own) (hlk : meth.locks = false) (htab : ∀ x ∈ c.exceptionTable.toList, False) (hfl : l.stackTraces = false) (I : KI D cy A ww s H locs) (hl : ls.size = nL)
    (hcls : Bundle.fit E = true) (hnames : ∀ n ∈ names, Bundle.fit n = true) (hstr : vk_R own is text sa s)
    (hk : Cond.classLink own ik E ∈ Ts) (hini : Cond.initialized E ∈ Ts) (hg1 : ∀ w ∈ (vx_atS own ic E names).filter goodWord, w ∈ Ts) (hg2 : ∀ w ∈ (vx_atS own ic E names).filter (fun w => !goodWord w), w ∈ nwl)
    (hgood : ∀ w ∈ Cond.classLink own ik E :: Cond.initialized E :: vx_atS own ic E names, vx_ot w = true)
    (d0 : decode cc pc = .ok (.new ik, 3)) (d3 : decode cc (pc + 3) = .ok (.dup, 1)) (d4 : decode cc (pc + 4) = .ok (.ldc is, 2)) (d6 : decode cc (pc + 6) = .ok (.invokespecial ic, 3)) (d9 : decode cc (pc + 9) = .ok (.athrow, 1))
    (hRf : names.length + 3 < R.frames) (hRl : (rest.map fun v => v.category).sum + (13 * (names.length + 1) + 43) ≤ R.locals) (hRc : cells + 1 ≤ R.cells) (hRs : slots + 6 ≤ R.slots) (hc : cells + 1 ≤ mc) (hs : slots + 6 ≤ ms) :
    W p l e R s m args below meth c H locs cells slots (vx_MQ below Qc (KX D cy A ww E) args s mc ms A) (F0 m pc ls rest) := by
  have hI := I
  obtain ⟨h1, h2, h3, h4, h5, h6⟩ := I
  exact vx_throwS S.1 S.2.1 hfl S.2.2.2.1 hcls hnames (S.2.2.2.2 _ hk) (S.2.2.2.2 _ hini) hstr (vx_hat (fun w hw => S.2.2.2.2 _ (hg1 w hw)) hg2 (fun w hw => (h2.2.2.2.1 w hw).use (by revert w; decide))) hgood h2.2.1.1 h2.2.1.2 h6 (hl.trans S.2.2.1.symm) d0 d3 d4 d6 d9 (fun x hx => (htab x hx).elim) hRf hRl hRc hRs hlk
    (fun t hvm hz hq => hI.thrown hvm hz hq) h6.2.2 hc hs
/-- a NullPointerException with a text is thrown here -/
theorem k_throwN {Qc : Array Value → State → Outcome → State → Prop} {text : String} {ik is ic mc ms sa : Nat} (S : CallFix p m c cc nL s args Ts own) (hlk : meth.locks = false) (htab : ∀ x ∈ c.exceptionTable.toList, False) (hfl : l.stackTraces = false) (I : KI D cy A ww s H locs) (hl : ls.size = nL)
    (hstr : vk_R own is text sa s)
    (hk : Cond.classLink own ik Bundle.nN ∈ Ts) (hini : Cond.initialized Bundle.nN ∈ Ts) (hg1 : ∀ w ∈ ((npAt own ic).filter vx_no).filter goodWord, w ∈ Ts) (hg2 : ∀ w ∈ ((npAt own ic).filter vx_no).filter (fun w => !goodWord w), w ∈ nwl)
    (hgood : ∀ w ∈ Cond.classLink own ik Bundle.nN :: Cond.initialized Bundle.nN :: (npAt own ic).filter vx_no, vx_ot w = true)
    (d0 : decode cc pc = .ok (.new ik, 3)) (d3 : decode cc (pc + 3) = .ok (.dup, 1)) (d4 : decode cc (pc + 4) = .ok (.ldc is, 2)) (d6 : decode cc (pc + 6) = .ok (.invokespecial ic, 3)) (d9 : decode cc (pc + 9) = .ok (.athrow, 1))
    (hRf : 7 < R.frames) (hRl : (rest.map fun v => v.category).sum + 121 ≤ R.locals) (hRc : cells + 1 ≤ R.cells) (hRs : slots + 8 ≤ R.slots) (hc : cells + 1 ≤ mc) (hs : slots + 8 ≤ ms) :
    W p l e R s m args below meth c H locs cells slots (vx_MQ below Qc (KX D cy A ww Bundle.nN) args s mc ms A) (F0 m pc ls rest) := by
  have hI := I
  obtain ⟨h1, h2, h3, h4, h5, h6⟩ := I
  exact vn_throw S.1 S.2.1 hfl S.2.2.2.1 (S.2.2.2.2 _ hk) (S.2.2.2.2 _ hini) hstr (vx_hat (fun w hw => S.2.2.2.2 _ (hg1 w hw)) hg2 (fun w hw => (h2.2.2.2.1 w hw).use (by revert w; decide))) hgood h2.2.1.1 h2.2.1.2 h6 (hl.trans S.2.2.1.symm) d0 d3 d4 d6 d9 (fun x hx => (htab x hx).elim) hRf hRl hRc hRs hlk
    (fun t hvm hz hq => hI.thrown hvm hz hq) h6.2.2 hc hs
/-- nobody catches here: it goes on to the caller -/
theorem k_out {Qc : Array Value → State → Outcome → State → Prop} {E : String} {ce : Cell} {q9 : Addr} {mc ms : Nat} (hlk : meth.locks = false) (htab : ∀ x ∈ c.exceptionTable.toList, False) (I : KI D cy A ww s H locs) (h1 : H[q9]? = some ce) (h2 : ce.vm = .none) (h3 : s.vm.findClass E = some ce.cls) (hc : cells ≤ mc) (hs : slots ≤ ms) :
    vx_W p l e R s m args below meth c H locs cells slots (vx_MQ below Qc (KX D cy A ww E) args s mc ms A) (F0 m pc ls rest) q9 := by
  have hI := I
  obtain ⟨k1, k2, k3, k4, k5, k6⟩ := I
  exact vx_out (fun x hx => (htab x hx).elim) hlk h1 h2 h3 (fun t ht hvm => hI.thrown hvm (by rw [ht]; exact Nat.le_refl _) (fun q hq => by rw [ht])) k6.2.2 hc hs
section KTV
variable {C : String} {index maxL mc ms n : Nat} {y : MethodName} {bytes : ByteArray} {ret : Option FieldType} {ws : List Cond} {rm : Room} {b : Addr} {As : List Value} {q0 ci : Nat} {fs : List Value} {q : vw_C}
/-- a virtual call that throws E -/
theorem k_VX {Qc : Array Value → State → Outcome → State → Prop} {E : String} (S : CallFix p m c cc nL s args Ts own) (I : KI D cy A ww s H locs) (hM : vx_Met l y ws rm (va_Pc (.ref b :: As) (KP D cy A ww)) (va_Qv (fun (_ : Unit) => False) (fun _ _ => True) A) (KX D cy A w1 E) mc ms A)
    (cw : CallW R s args own C index y bytes maxL ret ws rm mc ms n) (hq : ww[q0]? = some (b, .inr (ci, fs))) (hc : kCl[ci]? = some q) (hC : q.1 = C) (hn : As.length = n) (hl : ls.size = nL) (hst : st0 = As.reverse ++ .ref b :: rest) (hr : (rest.map fun v => v.category).sum ≤ 8) (d : decode cc pc = .ok (.invokevirtual index, 3)) (hf : cells + mc ≤ R.cells ∧ slots + ms ≤ R.slots)
    (kx : ∀ (H1 : Heap) (locs1 : List Loc) (ce : Cell) (q9 : Addr), KI D cy A w1 s H1 locs1 → H1[q9]? = some ce → ce.vm = .none → s.vm.findClass E = some ce.cls → vx_W p l e R s m args below meth c H1 locs1 (cells + mc) (slots + ms) Q (F0 m pc ls rest) q9) : W p l e R s m args below meth c H locs cells slots Q (F0 m pc ls st0) := by
  have hI := I
  obtain ⟨h1, h2, h3, h4, h5, h6⟩ := I
  refine vx_callv (vx_runV (As := As) (rest := rest) S hM cw ⟨KP_blind, hC ▸ va_recv h1 h4 hc hq, fun U hU hW => ⟨rfl, hI.pre hU hW⟩⟩ rfl hn hl hst (lv_room (m := m) (pc := pc) (ls := ls) (rest := st0) hr) d hf) h6 (fun _ _ h => h) (fun _ h => h) (fun _ _ h => h)
    (fun E1 ce q9 u t H1 locs1 ht hvm _ hB hz1 hk1 hS1 g1 g2 g3 => ?_) (fun u t H1 locs1 ht hvm hw hB hz1 hk1 hS1 => hw.elim)
  obtain ⟨rfl, hB⟩ := hB
  exact kx H1 locs1 ce q9 (hI.post ht hB hS1) g1 g2 g3
/-- a static call that throws E -/
theorem k_SX {E : String} (S : CallFix p m c cc nL s args Ts own) (I : KI D cy A ww s H locs) (hM : vx_Met l y ws rm (va_Pc As (KP D cy A ww)) (va_Qv (fun (_ : Unit) => False) (fun _ _ => True) A) (KX D cy A w1 E) mc ms A)
    (cw : CallB R s args own index y bytes maxL ret ws rm mc ms n ∧ (Cond.static y).before args s = true) (hn : As.length = n) (hl : ls.size = nL) (hst : st0 = As.reverse ++ rest) (hr : (rest.map fun v => v.category).sum ≤ 8) (d : decode cc pc = .ok (.invokestatic index, 3)) (hf : cells + mc ≤ R.cells ∧ slots + ms ≤ R.slots)
    (kx : ∀ (H1 : Heap) (locs1 : List Loc) (ce : Cell) (q9 : Addr), KI D cy A w1 s H1 locs1 → H1[q9]? = some ce → ce.vm = .none → s.vm.findClass E = some ce.cls → vx_W p l e R s m args below meth c H1 locs1 (cells + mc) (slots + ms) Q (F0 m pc ls rest) q9) : W p l e R s m args below meth c H locs cells slots Q (F0 m pc ls st0) := by
  have hI := I
  obtain ⟨h1, h2, h3, h4, h5, h6⟩ := I
  refine vx_callv (vx_runS (As := As) (rest := rest) S hM cw ⟨KP_blind, fun U hU hW => ⟨rfl, hI.pre hU hW⟩⟩ rfl hn hl hst (lv_room (m := m) (pc := pc) (ls := ls) (rest := st0) hr) d hf) h6 (fun _ _ h => h) (fun _ h => h) (fun _ _ h => h)
    (fun E1 ce q9 u t H1 locs1 ht hvm _ hB hz1 hk1 hS1 g1 g2 g3 => ?_) (fun u t H1 locs1 ht hvm hw hB hz1 hk1 hS1 => hw.elim)
  obtain ⟨rfl, hB⟩ := hB
  exact kx H1 locs1 ce q9 (hI.post ht hB hS1) g1 g2 g3
/-- a static call that returns nothing -/
theorem k_Sv (S : CallFix p m c cc nL s args Ts own) (I : KI D cy A ww s H locs) (hM : Met l y ws rm (va_Pc As (KP D cy A ww)) (va_Qv (fun (_ : Unit) => True) (fun _ => KB D cy A w1) A) mc ms A)
    (cw : CallB R s args own index y bytes maxL ret ws rm mc ms n ∧ (Cond.static y).before args s = true) (hn : As.length = n) (hl : ls.size = nL) (hst : st0 = As.reverse ++ rest) (hr : (rest.map fun v => v.category).sum ≤ 8) (d : decode cc pc = .ok (.invokestatic index, 3)) (hf : cells + mc ≤ R.cells ∧ slots + ms ≤ R.slots)
    (kk : ∀ (H1 : Heap) (locs1 : List Loc), KI D cy A w1 s H1 locs1 → W p l e R s m args below meth c H1 locs1 (cells + mc) (slots + ms) Q (F0 m (pc + 3) ls rest)) : W p l e R s m args below meth c H locs cells slots Q (F0 m pc ls st0) := by
  have hI := I
  obtain ⟨h1, h2, h3, h4, h5, h6⟩ := I
  refine va_callv (va_runS (As := As) (rest := rest) S hM cw ⟨KP_blind, fun U hU hW => ⟨rfl, hI.pre hU hW⟩⟩ rfl hn hl hst (lv_room (m := m) (pc := pc) (ls := ls) (rest := st0) hr) d hf) h6 (fun _ _ h => h) (fun _ h => h) (fun u t H1 locs1 ht hvm hw hB hz1 hk1 hS1 => ?_)
  exact kk H1 locs1 (hI.post ht hB hS1)
/-- a static call of a method with handlers, that answers an int -/
theorem k_SWi {G : Int32} {hh : List (Nat × Nat × Nat × Nat)} (S : CallFix p m c cc nL s args Ts own) (I : KI D cy A ww s H locs) (hM : Met l y ws rm (va_Pc As (KP D cy A ww)) (va_Qi (fun (r : Int32) (_ : Unit) => r = G) (fun _ => KB D cy A w1) A) mc ms A)
    (cw : vx_CSW R s args own index y bytes maxL ret hh ws rm mc ms n) (hn : As.length = n) (hl : ls.size = nL) (hst : st0 = As.reverse ++ rest) (hr : (rest.map fun v => v.category).sum ≤ 8) (d : decode cc pc = .ok (.invokestatic index, 3)) (hf : cells + mc ≤ R.cells ∧ slots + ms ≤ R.slots)
    (kk : ∀ (H1 : Heap) (locs1 : List Loc), KI D cy A w1 s H1 locs1 → W p l e R s m args below meth c H1 locs1 (cells + mc) (slots + ms) Q (F0 m (pc + 3) ls (.int G :: rest))) : W p l e R s m args below meth c H locs cells slots Q (F0 m pc ls st0) := by
  have hI := I
  obtain ⟨h1, h2, h3, h4, h5, h6⟩ := I
  refine va_calli (vx_runSW (As := As) (rest := rest) S hM cw ⟨KP_blind, fun U hU hW => ⟨rfl, hI.pre hU hW⟩⟩ rfl hn hl hst (lv_room (m := m) (pc := pc) (ls := ls) (rest := st0) hr) d hf) h6 (fun _ _ h => h) (fun _ h => h) (fun r u t H1 locs1 ht hvm hw hB hz1 hk1 hS1 => ?_)
  subst hw
  exact kk H1 locs1 (hI.post ht hB hS1)
end KTV
end KT
