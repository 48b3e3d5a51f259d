/-! CONSTRUCTORS: rows that make cells, in the words of part 05 -/
theorem k_openI {l : Launch} {y : MethodName} {ws ws' : List Cond} {rm : Room} {Qc : Array Value → State → Outcome → State → Prop} {mc ms : Nat} {A : Nat → Prop} {cc : ByteArray} {maxL : Nat} {ret : Option FieldType} {D : va_G} {cy : Nat → ClassId} {ww : va_W} {av : List Value} {own : String}
    (hy : plainName y.cls = true) (hw : ws = Cond.code y cc maxL ret :: ws') (hown : y.cls = own) (hn : y.name = "<init>") (hsz : (lg_sl av).length ≤ maxL)
    (body : ∀ p e s m args below meth c, CallFix p m c cc maxL s args ws own → meth.sig.returnType = ret → meth.locks = false → meth.name = "<init>" → KI D cy A ww s s.heap [] → ∀ ls, lv_has ls maxL (lv_args 0 av) → W p l e rm s m args below meth c s.heap [] 0 0 (MQ below Qc args s mc ms A) (F0 m 0 ls [])) : Met l y ws rm (va_Pc av (KP D cy A ww)) Qc mc ms A := by
  refine Met.ofW (cc := cc) (maxL := maxL) (ret := ret) hy hw ?_
  intro p e s m args below meth c s₁ B hml hv
  obtain ⟨rfl, hA, hP, hK, hD, hE⟩ := hv
  rw [lg_entry_eq]
  exact body p e s m _ below meth c ⟨B.exec, B.bytes, hml, hown ▸ findClass_of_methodNamed B.named, atoms_spec (ws := ws) B.pre⟩ B.returns B.notSynchronized ((name_of_methodNamed B.named B.method).1.trans hn) ⟨hK, hE, hA, hP, hD, va_S.rf⟩ _ (lv_entry av hsz)
theorem k_app {α : Type} {l z : List α} {q : Nat} {x : α} (h : l[q]? = some x) : (l ++ z)[q]? = some x := by
  rw [List.getElem?_append_left (List.getElem?_eq_some_iff.mp h).1]
  exact h
section KN
variable {p : Program} {l : Launch} {e : Env} {R : Room} {s : State} {m : MethodId} {args : Array Value} {below : List Frame} {meth : Method} {c : Code} {H : Heap} {locs : List Loc} {cells slots : Nat} {Q : State → Prop}
variable {cc : ByteArray} {nL : Nat} {Ts : List Cond} {own : String} {D : va_G} {cy : Nat → ClassId} {A : Nat → Prop} {ww w1 : va_W} {pc : Nat} {ls : Array Slot} {rest st0 : List Value}
theorem k_vretS {U : Type} {wf : U → va_W} {post : U → Prop} (u : U) (S : CallFix p m c cc nL s args Ts own) (hr : meth.sig.returnType = none) (hlk : meth.locks = false) (I : KI D cy A ww s H locs) (hp : post u) (hw : ww = wf u) (d : decode cc pc = .ok (.return_, 1)) :
    W p l e R s m args below meth c H locs cells slots (MQ below (va_Qv post (fun u => KB D cy A (wf u)) A) args s cells slots A) (F0 m pc ls []) := by
  obtain ⟨h1, h2, h3, h4, h5, h6⟩ := I
  subst hw
  exact W.vret S.1 S.2.1 hr (fun t ht hW => ⟨⟨u, rfl, hp, by rw [ht]; exact h4, va_K.moved hW.alike h1, h5⟩, h6.F ht⟩) h6.2.2 d hlk
theorem k_obj {a : Addr} {index : Nat} (S : CallFix p m c cc nL s args Ts own) (hl : ls.size = nL) (h1 : Cond.methodLink own index objectInit ∈ Ts) (h2 : Cond.instanceMethod objectInit ∈ Ts) (h3 : Cond.code objectInit ⟨#[0xb1]⟩ 1 none ∈ Ts) (d : decode cc pc = .ok (.invokespecial index, 3)) (hf : 1 ≤ R.frames) (hlo : (rest.map fun v => v.category).sum + 12 ≤ R.locals)
    (kk : W p l e R s m args below meth c H locs cells slots Q (F0 m (pc + 3) ls rest)) : W p l e R s m args below meth c H locs cells slots Q (F0 m pc ls (.ref a :: rest)) :=
  W.objInit S.1 S.2.1 S.2.2.2.1 (S.2.2.2.2 _ h1) (S.2.2.2.2 _ h2) (S.2.2.2.2 _ h3) rfl (hl.trans S.2.2.1.symm) rfl d hf (by show 2 * 0 + _ + 12 ≤ _; omega) kk
theorem k_new {C : String} {T : u_T} {N ci index : Nat} {fs : List Value} {wf : Nat → va_W} (S : CallFix p m c cc nL s args Ts own) (I : KI D cy A ww s H locs) (hin : ∀ w ∈ u_ws C T N, w ∈ Ts) (ty : Nat → FieldType) (hty : ∀ k, k < N → parseFieldDescriptor (T k).2.2.1 = some (ty k)) (hcl : Cond.classLink own index C ∈ Ts) (hinst : Cond.instantiable C N ∈ Ts) (hini : Cond.initialized C ∈ Ts)
    (hc : kCl[ci]? = some (C, T, N)) (hfs : ∀ j, j < N → defaultValue (ty j) = vp_V fs j) (hcells : cells + 1 ≤ R.cells) (hslots : slots + N ≤ R.slots) (hw : ∀ q, ww ++ [(q, .inr (ci, fs))] = wf q) (d : decode cc pc = .ok (.new index, 3))
    (kk : ∀ (q : Nat) (H1 : Heap), KI D cy A (wf q) s H1 locs → W p l e R s m args below meth c H1 locs (cells + 1) (slots + N) Q (F0 m (pc + 3) ls (.ref q :: rest))) : W p l e R s m args below meth c H locs cells slots Q (F0 m pc ls rest) := by
  obtain ⟨h1, h2, h3, h4, h5, h6⟩ := I
  refine va_new S.1 S.2.1 S.2.2.2.2 hin ty hty S.2.2.2.1 (S.2.2.2.2 _ hcl) (S.2.2.2.2 _ hinst) (S.2.2.2.2 _ hini) h1 h4 h5 h6 h3 hc hfs hcells hslots d (fun q H1 hP hD hS => kk q H1 ⟨h1, h2, h3, ?_, ?_, hS⟩)
  · rw [← hw]; exact hP
  · rw [← hw]; exact hD
theorem k_newa {n : Int32} {N' t0 : Nat} {cA : ClassId} {wf : Nat → va_W} (S : CallFix p m c cc nL s args Ts own) (I : KI D cy A ww s H locs) (harr : Cond.arrayClass .int ∈ Ts) (ht : (kTy cy)[t0]? = some (cA, .int)) (hn : ¬ n < 0) (hN : n.toNatClampNeg = N') (hb : N' * 4 ≤ 536870912) (hcells : cells + 1 ≤ R.cells) (hslots : slots + N' ≤ R.slots)
    (hw : ∀ q, ww ++ [(q, .inl (cA, N', .inl (fun _ => 0)))] = wf q) (d : decode cc pc = .ok (.newarray .int, 2))
    (kk : ∀ (q : Nat) (H1 : Heap), KI D cy A (wf q) s H1 locs → W p l e R s m args below meth c H1 locs (cells + 1) (slots + N') Q (F0 m (pc + 2) ls (.ref q :: rest))) : W p l e R s m args below meth c H locs cells slots Q (F0 m pc ls (.int n :: rest)) := by
  obtain ⟨h1, h2, h3, h4, h5, h6⟩ := I
  refine va_newa (atype := .int) (ty := .int) (a0 := (N', .inl (fun _ => 0))) S.1 S.2.1 (S.2.2.2.2 _ harr) rfl h1 h4 h5 h6 h3 (fun _ => rfl) hn hN hb hcells hslots d (fun q cB H1 hK hP hD hS => kk q H1 ⟨h1, h2, h3, ?_, ?_, hS⟩)
  · have e1 : s.vm.findClass ("[" ++ FieldType.int.toString) = some cB := (hK.2 5 (cB, .int) rfl).2
    have e2 : s.vm.findClass ("[" ++ FieldType.int.toString) = some cA := (h1.2 t0 _ ht).2
    cases Option.some.inj (e1.symm.trans e2)
    rw [← hw]; exact hP
  · have e1 : s.vm.findClass ("[" ++ FieldType.int.toString) = some cB := (hK.2 5 (cB, .int) rfl).2
    have e2 : s.vm.findClass ("[" ++ FieldType.int.toString) = some cA := (h1.2 t0 _ ht).2
    cases Option.some.inj (e1.symm.trans e2)
    rw [← hw]; exact hD
theorem k_newq {C : String} {index : Nat} {n : Int32} {N' t0 : Nat} {cA : ClassId} {wf : Nat → va_W} (S : CallFix p m c cc nL s args Ts own) (I : KI D cy A ww s H locs) (hcl : Cond.classLink own index C ∈ Ts) (hover : va_AO C s) (ht : (kTy cy)[t0]? = some (cA, .object C)) (hn : ¬ n < 0) (hN : n.toNatClampNeg = N') (hb : N' * 4 ≤ 536870912) (hcells : cells + 1 ≤ R.cells) (hslots : slots + N' ≤ R.slots)
    (hw : ∀ q, ww ++ [(q, .inl (cA, N', .inr (.inr (.inr (.inr (fun _ => none))))))] = wf q) (d : decode cc pc = .ok (.anewarray index, 3))
    (kk : ∀ (q : Nat) (H1 : Heap), KI D cy A (wf q) s H1 locs → W p l e R s m args below meth c H1 locs (cells + 1) (slots + N') Q (F0 m (pc + 3) ls (.ref q :: rest))) : W p l e R s m args below meth c H locs cells slots Q (F0 m pc ls (.int n :: rest)) := by
  obtain ⟨h1, h2, h3, h4, h5, h6⟩ := I
  refine va_newq S.1 S.2.1 S.2.2.2.1 (S.2.2.2.2 _ hcl) hover h1 h4 h5 h6 h3 hn hN hb hcells hslots d (fun q cB H1 hK hP hD hS => kk q H1 ⟨h1, h2, h3, ?_, ?_, hS⟩)
  · obtain ⟨-, -, -, -, -, e1⟩ := (hK.2 5 (cB, .object C) rfl).2
    obtain ⟨-, -, -, -, -, e2⟩ := (h1.2 t0 _ ht).2
    cases Option.some.inj (e1.symm.trans e2)
    rw [← hw]; exact hP
  · obtain ⟨-, -, -, -, -, e1⟩ := (hK.2 5 (cB, .object C) rfl).2
    obtain ⟨-, -, -, -, -, e2⟩ := (h1.2 t0 _ ht).2
    cases Option.some.inj (e1.symm.trans e2)
    rw [← hw]; exact hD
theorem k_aast {cA : ClassId} {r : vw_C} {n v j a : Nat} {vs : List Value} {f : Nat → Option Nat} {q0 t0 qk ci : Nat} {i : Int32} (S : CallFix p m c cc nL s args Ts own) (I : KI D cy A ww s H locs) (ha : ww[q0]? = some (a, .inl (cA, n, .inr (.inr (.inr (.inr f)))))) (ht : (kTy cy)[t0]? = some (cA, .object r.1)) (hv : ww[qk]? = some (v, .inr (ci, vs))) (hc : kCl[ci]? = some r) (hj : j < n) (hn : n < 2 ^ 31) (hi : i = nI j)
    (hw : ww.set q0 (a, .inl (cA, n, .inr (.inr (.inr (.inr (va_up f j (some v))))))) = w1) (d : decode cc pc = .ok (.aastore, 1))
    (kk : ∀ (H1 : Heap) (locs1 : List Loc), KI D cy A w1 s H1 locs1 → W p l e R s m args below meth c H1 locs1 cells slots Q (F0 m (pc + 1) ls rest)) : W p l e R s m args below meth c H locs cells slots Q (F0 m pc ls (.ref v :: .int i :: .ref a :: rest)) := by
  subst hi; subst hw
  refine va_astq S.1 S.2.1 I.1 I.2.2.2.1 I.2.2.2.2.1 I.2.2.2.2.2 q0 t0 qk ci ha ht hv hc (vp_in_nI hj hn) d (fun H1 locs1 hP hD hS => ?_)
  rw [nI_clamp (by omega)] at hP hD
  exact kk H1 locs1 ⟨I.1, I.2.1, I.2.2.1, hP, hD, hS⟩
theorem k_putF {C : String} {T : u_T} {N ci index k a q0 : Nat} {fs : List Value} {v : Value} {ty : FieldType} (S : CallFix p m c cc nL s args Ts own) (I : KI D cy A ww s H locs) (hin : ∀ w ∈ u_ws C T N, w ∈ Ts) (ty0 : Nat → FieldType) (hty : ∀ k, k < N → parseFieldDescriptor (T k).2.2.1 = some (ty0 k)) (hnm : ∀ a, a < N → ∀ b, b < N → a ≠ b → (T a).2.1 ≠ (T b).2.1) (he : ww[q0]? = some (a, .inr (ci, fs))) (hc : kCl[ci]? = some (C, T, N)) (hk : k < N) (hlink : Cond.fieldLink own index (T k).1 (T k).2.1 (T k).2.2.1 ∈ Ts) (hfin : (T k).2.2.2 = true) (hini : meth.name = "<init>") (hdecl : (T k).1 = own) (htk : ty0 k = ty) (hn : narrow ty v = v) (hfit : fits ty v = true) (hl : k < fs.length) (hw : ww.set q0 (a, .inr (ci, fs.set k v)) = w1) (d : decode cc pc = .ok (.putfield index, 3))
    (kk : ∀ (H1 : Heap) (locs1 : List Loc), KI D cy A w1 s H1 locs1 → W p l e R s m args below meth c H1 locs1 cells slots Q (F0 m (pc + 3) ls rest)) : W p l e R s m args below meth c H locs cells slots Q (F0 m pc ls (v :: .ref a :: rest)) := by
  subst hw
  exact va_putF S.1 S.2.1 S.2.2.2.2 hin ty0 hty hnm S.2.2.2.1 I.1 I.2.2.2.1 I.2.2.2.2.1 I.2.2.2.2.2 q0 he hc k hk (S.2.2.2.2 _ hlink) (fun _ h => h) hfin hini hdecl (htk ▸ hty k hk) hn hfit hl d (fun H1 locs1 hP hD hS => kk H1 locs1 ⟨I.1, I.2.1, I.2.2.1, hP, hD, hS⟩)
/-- a nest mate's private constructor -/
theorem k_IN {U : Type} {wf : U → va_W} {post : U → Prop} {index maxL mc ms n : Nat} {y : MethodName} {bytes : ByteArray} {ws : List Cond} {rm : Room} {b : Addr} {As : List Value} {host : String} (S : CallFix p m c cc nL s args Ts own) (I : KI D cy A ww s H locs) (hM : Met l y ws rm (va_Pc (.ref b :: As) (KP D cy A ww)) (va_Qv post (fun u => KB D cy A (wf u)) A) mc ms A)
    (cw : va_CN R s args own index y host bytes maxL none ws rm mc ms n ∧ y.name = "<init>" ∧ (Cond.instanceMethod y).before args s = true) (hn : As.length = n) (hl : ls.size = nL) (hst : st0 = As.reverse ++ .ref b :: rest) (hr : (rest.map fun v => v.category).sum ≤ 8) (d : decode cc pc = .ok (.invokespecial index, 3)) (hf : cells + mc ≤ R.cells ∧ slots + ms ≤ R.slots)
    (kk : ∀ (u : U) (H1 : Heap) (locs1 : List Loc), post u → KI D cy A (wf u) s H1 locs1 → W p l e R s m args below meth c H1 locs1 (cells + mc) (slots + ms) Q (F0 m (pc + 3) ls rest)) : W p l e R s m args below meth c H locs cells slots Q (F0 m pc ls st0) := by
  have hI := I
  obtain ⟨h1, h2, h3, h4, h5, h6⟩ := I
  refine va_callv (va_runIN (As := As) (rest := rest) S hM cw ⟨KP_blind, fun U hU hW => ⟨rfl, hI.pre hU hW⟩⟩ rfl hn hl hst (lv_room (m := m) (pc := pc) (ls := ls) (rest := st0) hr) d hf) h6 (fun _ _ h => h) (fun _ h => h) (fun u t H1 locs1 ht hvm hw hB hz1 hk1 hS1 => ?_)
  exact kk u H1 locs1 hw (hI.post ht hB hS1)
/-- a constructor -/
theorem k_II {U : Type} {wf : U → va_W} {post : U → Prop} {index maxL mc ms n : Nat} {y : MethodName} {bytes : ByteArray} {ws : List Cond} {rm : Room} {b : Addr} {As : List Value} (S : CallFix p m c cc nL s args Ts own) (I : KI D cy A ww s H locs) (hM : Met l y ws rm (va_Pc (.ref b :: As) (KP D cy A ww)) (va_Qv post (fun u => KB D cy A (wf u)) A) mc ms A)
    (cw : CallB R s args own index y bytes maxL none ws rm mc ms n ∧ y.name = "<init>" ∧ (Cond.instanceMethod y).before args s = true) (hn : As.length = n) (hl : ls.size = nL) (hst : st0 = As.reverse ++ .ref b :: rest) (hr : (rest.map fun v => v.category).sum ≤ 8) (d : decode cc pc = .ok (.invokespecial index, 3)) (hf : cells + mc ≤ R.cells ∧ slots + ms ≤ R.slots)
    (kk : ∀ (u : U) (H1 : Heap) (locs1 : List Loc), post u → KI D cy A (wf u) s H1 locs1 → W p l e R s m args below meth c H1 locs1 (cells + mc) (slots + ms) Q (F0 m (pc + 3) ls rest)) : W p l e R s m args below meth c H locs cells slots Q (F0 m pc ls st0) := by
  have hI := I
  obtain ⟨h1, h2, h3, h4, h5, h6⟩ := I
  refine va_callv (va_runI (As := As) (rest := rest) S hM cw ⟨KP_blind, fun U hU hW => ⟨rfl, hI.pre hU hW⟩⟩ rfl hn hl hst (lv_room (m := m) (pc := pc) (ls := ls) (rest := st0) hr) d hf) h6 (fun _ _ h => h) (fun _ h => h) (fun u t H1 locs1 ht hvm hw hB hz1 hk1 hS1 => ?_)
  exact kk u H1 locs1 hw (hI.post ht hB hS1)
end KN
