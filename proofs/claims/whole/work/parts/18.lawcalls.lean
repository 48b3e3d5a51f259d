/-! THE LAW'S FOUR: set, run, note, count with their handlers, laid by wip/whole/lawcalls.py -/
section KL
variable {p : Program} {l : Launch} {e : Env} {R : Room} {s : State} {m : MethodId} {args : Array Value} {below : List Frame} {meth : Method} {c : Code} {H : Heap} {locs : List Loc} {cells slots : Nat} {Q : State → Prop}
variable {cc : ByteArray} {nL : Nat} {Ts : List Cond} {own : String} {D : va_G} {cy : Nat → ClassId} {A : Nat → Prop} {ww w1 : va_W} {pc : Nat} {ls : Array Slot} {rest st0 : List Value} {a q0 : Nat}
theorem k_last {cA : ClassId} {n t0 j : Nat} {f : Nat → Int64} {i : Int32} {x : Int64} (S : CallFix p m c cc nL s args Ts own) (I : KI D cy A ww s H locs) (ha : ww[q0]? = some (a, .inl (cA, n, .inr (.inl f)))) (ht : (kTy cy)[t0]? = some (cA, .long)) (hj : j < n) (hn : n < 2 ^ 31) (hi : i = nI j) (hw : ww.set q0 (a, .inl (cA, n, .inr (.inl (vp_updL f j x)))) = w1) (d : decode cc pc = .ok (.lastore, 1))
    (kk : ∀ (H1 : Heap) (locs1 : List Loc), KI D cy A w1 s H1 locs1 → W p l e R s m args below meth c H1 locs1 cells slots Q (F0 m (pc + 1) ls rest)) : W p l e R s m args below meth c H locs cells slots Q (F0 m pc ls (.long x :: .int i :: .ref a :: rest)) := by
  subst hi; subst hw
  refine va_last S.1 S.2.1 I.1 I.2.2.2.1 I.2.2.2.2.1 I.2.2.2.2.2 q0 t0 ha ht (vp_in_nI hj hn) d (fun H1 locs1 hP hD hS => ?_)
  rw [nI_clamp (by omega)] at hP hD
  exact kk H1 locs1 ⟨I.1, I.2.1, I.2.2.1, hP, hD, hS⟩
theorem k_lald {cA : ClassId} {n t0 j : Nat} {f : Nat → Int64} {i : Int32} {x : Int64} (S : CallFix p m c cc nL s args Ts own) (I : KI D cy A ww s H locs) (ha : ww[q0]? = some (a, .inl (cA, n, .inr (.inl f)))) (ht : (kTy cy)[t0]? = some (cA, .long)) (hj : j < n) (hn : n < 2 ^ 31) (hi : i = nI j) (hx : f j = x) (d : decode cc pc = .ok (.laload, 1))
    (kk : W p l e R s m args below meth c H locs cells slots Q (F0 m (pc + 1) ls (.long x :: rest))) : W p l e R s m args below meth c H locs cells slots Q (F0 m pc ls (.int i :: .ref a :: rest)) := by
  subst hi; subst hx
  refine va_lald S.1 S.2.1 I.1 I.2.2.2.1 q0 t0 ha ht (vp_in_nI hj hn) d ?_
  rw [nI_clamp (by omega)]
  exact kk
/-- E is caught here, by the row x of the method's table -/
theorem k_catch {E : String} {ce : Cell} {q9 tgt : Nat} {hh : List (Nat × Nat × Nat × Nat)} (pre : List ExceptionTableEntry) (x : ExceptionTableEntry) (suf : List ExceptionTableEntry) (S : CallFix p m c cc nL s args Ts own) (I : KI D cy A ww s H locs) (htab : c.exceptionTable.toList = tableOf hh) (hsp : tableOf hh = pre ++ x :: suf)
    (hpass : ∀ z ∈ pre, ∃ q ∈ ncl, q.1 = E ∧ z.catchType ≠ 0 ∧ Cond.classLink own z.catchType q.2 ∈ Ts) (hx : covers x pc = true) (h0 : x.catchType ≠ 0) (hlink : Cond.classLink own x.catchType E ∈ Ts) (hcast : Cond.castable E E ∈ nwl) (hcell : H[q9]? = some ce) (hv : ce.vm = .none) (hcl : s.vm.findClass E = some ce.cls) (htg : x.handlerPc = tgt)
    (kk : W p l e R s m args below meth c H locs cells slots Q (F0 m tgt ls [.ref q9])) : vx_W p l e R s m args below meth c H locs cells slots Q (F0 m pc ls rest) q9 := by
  subst htg
  refine vx_catch S.2.2.2.1 pre x suf (htab.trans hsp) (fun z hz => ?_) hx h0 (S.2.2.2.2 _ hlink) ((I.2.1.2.2.2.1 _ hcast).use rfl) hcell hv hcl kk
  obtain ⟨q, hq, rfl, h1, h2⟩ := hpass z hz
  exact Or.inr ⟨h1, q.2, S.2.2.2.2 _ h2, I.2.1.2.2.2.2.1 q hq⟩
end KL
def wtL_set : List Cond := wsL_set ++ xwA
def wtL_run : List Cond := wsL_run ++ xwA
def wtL_note : List Cond := wsL_note ++ xwA
def wtL_count : List Cond := wsL_count ++ xwA
set_option maxHeartbeats 4000000 in
set_option maxRecDepth 100000 in
/-- set, no such level -/
theorem c_Lset0 (l : Launch) (hfl : l.stackTraces = false) (D : va_G) (cy : Nat → ClassId) (A : Nat → Prop) (ad bd : Nat → Nat) (C : rC) (N : rN) (T : rT) (rn : Int32) (C2 : rC) (S2 : mS) (rn2 o2 c2 : Int32) (od : Nat) (fo : Nat → Int64) (x a b d v : Int32) (hx0 : isL x = 0) : Met l yL_set wtL_set ({ frames := 14, cells := 1, slots := 8, locals := 400 }) (va_Pc [.ref (ad 0), .int x, .int a, .int b, .int d, .int v, .ref od] (KP D cy A (rgW ad cy C N T rn (mdW bd cy C2 S2 rn2 o2 c2 [(od, .inl (cy 13, 1, .inr (.inl fo)))])))) (va_Qi (fun (r : Int32) (_ : Unit) => r = 1) (fun _ => KB D cy A (rgW ad cy C N T rn (mdW bd cy C2 S2 rn2 o2 c2 [(od, .inl (cy 13, 1, .inr (.inl fo)))]))) A) 1 8 A := by
  refine k_openH (own := RL) (maxL := 8) (ret := (some .int)) (by decide) rfl rfl (Nat.le_of_ble_eq_true rfl) (fun p e s m args below meth c S hr hlk htab I ls hl => ?_)
  obtain ⟨hx, hb, hml, hown, hts⟩ := id S
  have hl : lv_has ls 8 [(0, .ref (ad 0)), (1, .int x), (2, .int a), (3, .int b), (4, .int d), (5, .int v), (6, .ref od)] := hl
  refine lv_aload hx hb dL_set_0 (lv_at hl 6 rfl) ?_
  refine lv_iconst (v := 0) hx hb dL_set_2 (by decide) ?_
  refine lv_aload_n hx hb dL_set_3 rfl (lv_at hl 0 rfl) ?_
  refine lv_iload_n hx hb dL_set_4 rfl (lv_at hl 1 rfl) ?_
  refine lv_iload_n hx hb dL_set_5 rfl (lv_at hl 2 rfl) ?_
  refine lv_iload_n hx hb dL_set_6 rfl (lv_at hl 3 rfl) ?_
  refine lv_iload hx hb dL_set_7 (lv_at hl 4 rfl) ?_
  refine lv_iload hx hb dL_set_9 (lv_at hl 5 rfl) ?_
  refine k_VX (Qc := fun _ _ _ _ => True) (q0 := 0) (As := [.int x, .int a, .int b, .int d, .int v]) (rest := [.int 0, .ref od]) (w1 := rgW ad cy C N T rn (mdW bd cy C2 S2 rn2 o2 c2 [(od, .inl (cy 13, 1, .inr (.inl fo)))])) S I (c_rset0 l hfl D cy A ad C N T rn (mdW bd cy C2 S2 rn2 o2 c2 [(od, .inl (cy 13, 1, .inr (.inl fo)))]) x a b d v hx0) (cwV 5 hts (gx_V gL_set_X3_set xw_good) rfl rfl rfl (by decide +kernel) ⟨(Nat.le_of_ble_eq_true rfl), (Nat.le_of_ble_eq_true rfl)⟩) rfl rfl rfl rfl hl.1 rfl (Nat.le_of_ble_eq_true rfl) dL_set_11 ⟨(Nat.le_of_ble_eq_true rfl), (Nat.le_of_ble_eq_true rfl)⟩ (fun H locs ce q9 I g1 g2 g3 => ?_)
  refine k_catch (E := "java/lang/ArrayIndexOutOfBoundsException") (tgt := 19) [] ⟨0, 16, 19, 13⟩ [] S I htab rfl (by decide +kernel) (by decide) (by decide) (List.mem_append_left _ (by decide +kernel)) (by decide +kernel) g1 g2 g3 rfl ?_
  refine lv_astore (lv' := [(7, .ref q9), (0, .ref (ad 0)), (1, .int x), (2, .int a), (3, .int b), (4, .int d), (5, .int v), (6, .ref od)]) hx hb dL_set_19 hl (by decide) rfl (fun ls hl => ?_)
  refine lv_iconst (v := 1) hx hb dL_set_21 (by decide) ?_
  exact k_iret S hr hlk I rfl rfl dL_set_22
set_option maxHeartbeats 4000000 in
set_option maxRecDepth 100000 in
/-- set, a level -/
theorem c_Lset1 (l : Launch) (hfl : l.stackTraces = false) (D : va_G) (cy : Nat → ClassId) (A : Nat → Prop) (ad bd : Nat → Nat) (C : rC) (N : rN) (T : rT) (rn : Int32) (C2 : rC) (S2 : mS) (rn2 o2 c2 : Int32) (od : Nat) (fo : Nat → Int64) (k : Nat) (hk : k < 6) (a b d v : Int32) : Met l yL_set wsL_set ({ frames := 2, cells := 0, slots := 0, locals := 80 }) (va_Pc [.ref (ad 0), .int (nI k), .int a, .int b, .int d, .int v, .ref od] (KP D cy A (rgW ad cy C N T rn (mdW bd cy C2 S2 rn2 o2 c2 [(od, .inl (cy 13, 1, .inr (.inl fo)))])))) (va_Qi (fun (r : Int32) (_ : Unit) => r = 0) (fun _ => KB D cy A (rgW ad cy (upd C.1 k a, upd C.2.1 k b, upd C.2.2.1 k d, upd C.2.2.2 k v) N T rn (mdW bd cy C2 S2 rn2 o2 c2 [(od, .inl (cy 13, 1, .inr (.inl (vp_updL fo 0 ((C.2.2.2 k).toInt64)))))]))) A) 0 0 A := by
  refine k_openH (own := RL) (maxL := 8) (ret := (some .int)) (by decide) rfl rfl (Nat.le_of_ble_eq_true rfl) (fun p e s m args below meth c S hr hlk htab I ls hl => ?_)
  obtain ⟨hx, hb, hml, hown, hts⟩ := id S
  have hl : lv_has ls 8 [(0, .ref (ad 0)), (1, .int (nI k)), (2, .int a), (3, .int b), (4, .int d), (5, .int v), (6, .ref od)] := hl
  refine lv_aload hx hb dL_set_0 (lv_at hl 6 rfl) ?_
  refine lv_iconst (v := 0) hx hb dL_set_2 (by decide) ?_
  refine lv_aload_n hx hb dL_set_3 rfl (lv_at hl 0 rfl) ?_
  refine lv_iload_n hx hb dL_set_4 rfl (lv_at hl 1 rfl) ?_
  refine lv_iload_n hx hb dL_set_5 rfl (lv_at hl 2 rfl) ?_
  refine lv_iload_n hx hb dL_set_6 rfl (lv_at hl 3 rfl) ?_
  refine lv_iload hx hb dL_set_7 (lv_at hl 4 rfl) ?_
  refine lv_iload hx hb dL_set_9 (lv_at hl 5 rfl) ?_
  refine k_Vi (q0 := 0) (As := [.int (nI k), .int a, .int b, .int d, .int v]) (rest := [.int 0, .ref od]) (w1 := rgW ad cy (upd C.1 k a, upd C.2.1 k b, upd C.2.2.1 k d, upd C.2.2.2 k v) N T rn (mdW bd cy C2 S2 rn2 o2 c2 [(od, .inl (cy 13, 1, .inr (.inl fo)))])) (G := (C.2.2.2 k)) S I (c_rset1 l D cy A ad C N T rn (mdW bd cy C2 S2 rn2 o2 c2 [(od, .inl (cy 13, 1, .inr (.inl fo)))]) k hk a b d v) (cwV 5 hts gL_set_X3_set rfl rfl rfl (by decide +kernel) ⟨(Nat.le_of_ble_eq_true rfl), (Nat.le_of_ble_eq_true rfl)⟩) rfl rfl rfl rfl hl.1 rfl (Nat.le_of_ble_eq_true rfl) dL_set_11 ⟨Nat.zero_le _, Nat.zero_le _⟩ (fun H locs I => ?_)
  refine lv_i2l (v := (C.2.2.2 k).toInt64) hx hb dL_set_14 rfl ?_
  refine k_last (q0 := 23) (t0 := 13) (j := 0) (n := 1) (w1 := rgW ad cy (upd C.1 k a, upd C.2.1 k b, upd C.2.2.1 k d, upd C.2.2.2 k v) N T rn (mdW bd cy C2 S2 rn2 o2 c2 [(od, .inl (cy 13, 1, .inr (.inl (vp_updL fo 0 ((C.2.2.2 k).toInt64)))))])) S I rfl rfl (by decide) (by decide) rfl rfl dL_set_15 (fun H locs I => ?_)
  refine lv_goto (tgt := 23) hx hb dL_set_16 (by decide) ?_
  refine lv_iconst (v := 0) hx hb dL_set_23 (by decide) ?_
  exact k_iret S hr hlk I rfl rfl dL_set_24
set_option maxHeartbeats 4000000 in
set_option maxRecDepth 100000 in
/-- note, there is none -/
theorem c_Lnote0 (l : Launch) (hfl : l.stackTraces = false) (D : va_G) (cy : Nat → ClassId) (A : Nat → Prop) (ad bd : Nat → Nat) (C : rC) (N : rN) (T : rT) (rn : Int32) (C2 : rC) (S2 : mS) (rn2 o2 c2 : Int32) (od : Nat) (fo : Nat → Int64) (hN : N.2 < 100000) (x : Int32) (hn : x < 0 ∨ nI N.2 ≤ x ∨ 64 ≤ x) : Met l yL_note wtL_note ({ frames := 14, cells := 1, slots := 8, locals := 400 }) (va_Pc [.ref (ad 0), .int x, .ref od] (KP D cy A (rgW ad cy C N T rn (mdW bd cy C2 S2 rn2 o2 c2 [(od, .inl (cy 13, 1, .inr (.inl fo)))])))) (va_Qi (fun (r : Int32) (_ : Unit) => r = 1) (fun _ => KB D cy A (rgW ad cy C N T rn (mdW bd cy C2 S2 rn2 o2 c2 [(od, .inl (cy 13, 1, .inr (.inl fo)))]))) A) 1 8 A := by
  refine k_openH (own := RL) (maxL := 4) (ret := (some .int)) (by decide) rfl rfl (Nat.le_of_ble_eq_true rfl) (fun p e s m args below meth c S hr hlk htab I ls hl => ?_)
  obtain ⟨hx, hb, hml, hown, hts⟩ := id S
  have hl : lv_has ls 4 [(0, .ref (ad 0)), (1, .int x), (2, .ref od)] := hl
  refine lv_aload_n hx hb dL_note_0 rfl (lv_at hl 2 rfl) ?_
  refine lv_iconst (v := 0) hx hb dL_note_1 (by decide) ?_
  refine lv_aload_n hx hb dL_note_2 rfl (lv_at hl 0 rfl) ?_
  refine lv_iload_n hx hb dL_note_3 rfl (lv_at hl 1 rfl) ?_
  refine k_VX (Qc := fun _ _ _ _ => True) (q0 := 0) (As := [.int x]) (rest := [.int 0, .ref od]) (w1 := rgW ad cy C N T rn (mdW bd cy C2 S2 rn2 o2 c2 [(od, .inl (cy 13, 1, .inr (.inl fo)))])) S I (c_rnote0 l hfl D cy A ad C N T rn (mdW bd cy C2 S2 rn2 o2 c2 [(od, .inl (cy 13, 1, .inr (.inl fo)))]) hN x hn) (cwV 1 hts (gx_V gL_note_X3_note xw_good) rfl rfl rfl (by decide +kernel) ⟨(Nat.le_of_ble_eq_true rfl), (Nat.le_of_ble_eq_true rfl)⟩) rfl rfl rfl rfl hl.1 rfl (Nat.le_of_ble_eq_true rfl) dL_note_4 ⟨(Nat.le_of_ble_eq_true rfl), (Nat.le_of_ble_eq_true rfl)⟩ (fun H locs ce q9 I g1 g2 g3 => ?_)
  refine k_catch (E := "java/lang/ArrayIndexOutOfBoundsException") (tgt := 12) [] ⟨0, 9, 12, 13⟩ [] S I htab rfl (by decide +kernel) (by decide) (by decide) (List.mem_append_left _ (by decide +kernel)) (by decide +kernel) g1 g2 g3 rfl ?_
  refine lv_astore_n (lv' := [(3, .ref q9), (0, .ref (ad 0)), (1, .int x), (2, .ref od)]) hx hb dL_note_12 rfl hl (by decide) rfl (fun ls hl => ?_)
  refine lv_iconst (v := 1) hx hb dL_note_13 (by decide) ?_
  exact k_iret S hr hlk I rfl rfl dL_note_14
set_option maxHeartbeats 4000000 in
set_option maxRecDepth 100000 in
/-- note -/
theorem c_Lnote1 (l : Launch) (hfl : l.stackTraces = false) (D : va_G) (cy : Nat → ClassId) (A : Nat → Prop) (ad bd : Nat → Nat) (C : rC) (N : rN) (T : rT) (rn : Int32) (C2 : rC) (S2 : mS) (rn2 o2 c2 : Int32) (od : Nat) (fo : Nat → Int64) (hN : N.2 < 100000) (k : Nat) (h1 : k < N.2) (h2 : k < 64) : Met l yL_note wsL_note ({ frames := 4, cells := 0, slots := 0, locals := 120 }) (va_Pc [.ref (ad 0), .int (nI k), .ref od] (KP D cy A (rgW ad cy C N T rn (mdW bd cy C2 S2 rn2 o2 c2 [(od, .inl (cy 13, 1, .inr (.inl fo)))])))) (va_Qi (fun (r : Int32) (_ : Unit) => r = 0) (fun _ => KB D cy A (rgW ad cy C N T rn (mdW bd cy C2 S2 rn2 o2 c2 [(od, .inl (cy 13, 1, .inr (.inl (vp_updL fo 0 ((N.1 k).toInt64)))))]))) A) 0 0 A := by
  refine k_openH (own := RL) (maxL := 4) (ret := (some .int)) (by decide) rfl rfl (Nat.le_of_ble_eq_true rfl) (fun p e s m args below meth c S hr hlk htab I ls hl => ?_)
  obtain ⟨hx, hb, hml, hown, hts⟩ := id S
  have hl : lv_has ls 4 [(0, .ref (ad 0)), (1, .int (nI k)), (2, .ref od)] := hl
  refine lv_aload_n hx hb dL_note_0 rfl (lv_at hl 2 rfl) ?_
  refine lv_iconst (v := 0) hx hb dL_note_1 (by decide) ?_
  refine lv_aload_n hx hb dL_note_2 rfl (lv_at hl 0 rfl) ?_
  refine lv_iload_n hx hb dL_note_3 rfl (lv_at hl 1 rfl) ?_
  refine k_Vi (q0 := 0) (As := [.int (nI k)]) (rest := [.int 0, .ref od]) (w1 := rgW ad cy C N T rn (mdW bd cy C2 S2 rn2 o2 c2 [(od, .inl (cy 13, 1, .inr (.inl fo)))])) (G := (N.1 k)) S I (c_rnote1 l D cy A ad C N T rn (mdW bd cy C2 S2 rn2 o2 c2 [(od, .inl (cy 13, 1, .inr (.inl fo)))]) hN k h1 h2) (cwV 1 hts gL_note_X3_note rfl rfl rfl (by decide +kernel) ⟨(Nat.le_of_ble_eq_true rfl), (Nat.le_of_ble_eq_true rfl)⟩) rfl rfl rfl rfl hl.1 rfl (Nat.le_of_ble_eq_true rfl) dL_note_4 ⟨Nat.zero_le _, Nat.zero_le _⟩ (fun H locs I => ?_)
  refine lv_i2l (v := (N.1 k).toInt64) hx hb dL_note_7 rfl ?_
  refine k_last (q0 := 23) (t0 := 13) (j := 0) (n := 1) (w1 := rgW ad cy C N T rn (mdW bd cy C2 S2 rn2 o2 c2 [(od, .inl (cy 13, 1, .inr (.inl (vp_updL fo 0 ((N.1 k).toInt64)))))])) S I rfl rfl (by decide) (by decide) rfl rfl dL_note_8 (fun H locs I => ?_)
  refine lv_goto (tgt := 15) hx hb dL_note_9 (by decide) ?_
  refine lv_iconst (v := 0) hx hb dL_note_15 (by decide) ?_
  exact k_iret S hr hlk I rfl rfl dL_note_16
set_option maxHeartbeats 4000000 in
set_option maxRecDepth 100000 in
/-- count, none such -/
theorem c_Lcount0 (l : Launch) (hfl : l.stackTraces = false) (D : va_G) (cy : Nat → ClassId) (A : Nat → Prop) (ad bd : Nat → Nat) (C : rC) (N : rN) (T : rT) (rn : Int32) (C2 : rC) (S2 : mS) (rn2 o2 c2 : Int32) (od : Nat) (fo : Nat → Int64) (x : Int32) (hn : x < 0 ∨ 6 < x) : Met l yL_count wtL_count ({ frames := 14, cells := 1, slots := 8, locals := 400 }) (va_Pc [.ref (ad 0), .int x, .ref od] (KP D cy A (rgW ad cy C N T rn (mdW bd cy C2 S2 rn2 o2 c2 [(od, .inl (cy 13, 1, .inr (.inl fo)))])))) (va_Qi (fun (r : Int32) (_ : Unit) => r = 1) (fun _ => KB D cy A (rgW ad cy C N T rn (mdW bd cy C2 S2 rn2 o2 c2 [(od, .inl (cy 13, 1, .inr (.inl fo)))]))) A) 1 8 A := by
  refine k_openH (own := RL) (maxL := 4) (ret := (some .int)) (by decide) rfl rfl (Nat.le_of_ble_eq_true rfl) (fun p e s m args below meth c S hr hlk htab I ls hl => ?_)
  obtain ⟨hx, hb, hml, hown, hts⟩ := id S
  have hl : lv_has ls 4 [(0, .ref (ad 0)), (1, .int x), (2, .ref od)] := hl
  refine lv_aload_n hx hb dL_count_0 rfl (lv_at hl 2 rfl) ?_
  refine lv_iconst (v := 0) hx hb dL_count_1 (by decide) ?_
  refine lv_aload_n hx hb dL_count_2 rfl (lv_at hl 0 rfl) ?_
  refine lv_iload_n hx hb dL_count_3 rfl (lv_at hl 1 rfl) ?_
  refine k_VX (Qc := fun _ _ _ _ => True) (q0 := 0) (As := [.int x]) (rest := [.int 0, .ref od]) (w1 := rgW ad cy C N T rn (mdW bd cy C2 S2 rn2 o2 c2 [(od, .inl (cy 13, 1, .inr (.inl fo)))])) S I (c_rcount0 l hfl D cy A ad C N T rn (mdW bd cy C2 S2 rn2 o2 c2 [(od, .inl (cy 13, 1, .inr (.inl fo)))]) x hn) (cwV 1 hts (gx_V gL_count_X3_count xw_good) rfl rfl rfl (by decide +kernel) ⟨(Nat.le_of_ble_eq_true rfl), (Nat.le_of_ble_eq_true rfl)⟩) rfl rfl rfl rfl hl.1 rfl (Nat.le_of_ble_eq_true rfl) dL_count_4 ⟨(Nat.le_of_ble_eq_true rfl), (Nat.le_of_ble_eq_true rfl)⟩ (fun H locs ce q9 I g1 g2 g3 => ?_)
  refine k_catch (E := Bundle.nN) (tgt := 12) [] ⟨0, 9, 12, 25⟩ [] S I htab rfl (by decide +kernel) (by decide) (by decide) (List.mem_append_left _ (by decide +kernel)) (by decide +kernel) g1 g2 g3 rfl ?_
  refine lv_astore_n (lv' := [(3, .ref q9), (0, .ref (ad 0)), (1, .int x), (2, .ref od)]) hx hb dL_count_12 rfl hl (by decide) rfl (fun ls hl => ?_)
  refine lv_iconst (v := 1) hx hb dL_count_13 (by decide) ?_
  exact k_iret S hr hlk I rfl rfl dL_count_14
set_option maxHeartbeats 4000000 in
set_option maxRecDepth 100000 in
/-- count -/
theorem c_Lcount1 (l : Launch) (hfl : l.stackTraces = false) (D : va_G) (cy : Nat → ClassId) (A : Nat → Prop) (ad bd : Nat → Nat) (C : rC) (N : rN) (T : rT) (rn : Int32) (C2 : rC) (S2 : mS) (rn2 o2 c2 : Int32) (od : Nat) (fo : Nat → Int64) (hT : T.2.2 ≤ 7) (x : Int32) (hx1 : ¬ x < 0 ∧ ¬ 6 < x) : Met l yL_count wsL_count ({ frames := 4, cells := 0, slots := 0, locals := 120 }) (va_Pc [.ref (ad 0), .int x, .ref od] (KP D cy A (rgW ad cy C N T rn (mdW bd cy C2 S2 rn2 o2 c2 [(od, .inl (cy 13, 1, .inr (.inl fo)))])))) (va_Qi (fun (r : Int32) (_ : Unit) => r = 0) (fun _ => KB D cy A (rgW ad cy C N T rn (mdW bd cy C2 S2 rn2 o2 c2 [(od, .inl (cy 13, 1, .inr (.inl (vp_updL fo 0 ((cnF N T rn x).toInt64)))))]))) A) 0 0 A := by
  refine k_openH (own := RL) (maxL := 4) (ret := (some .int)) (by decide) rfl rfl (Nat.le_of_ble_eq_true rfl) (fun p e s m args below meth c S hr hlk htab I ls hl => ?_)
  obtain ⟨hx, hb, hml, hown, hts⟩ := id S
  have hl : lv_has ls 4 [(0, .ref (ad 0)), (1, .int x), (2, .ref od)] := hl
  refine lv_aload_n hx hb dL_count_0 rfl (lv_at hl 2 rfl) ?_
  refine lv_iconst (v := 0) hx hb dL_count_1 (by decide) ?_
  refine lv_aload_n hx hb dL_count_2 rfl (lv_at hl 0 rfl) ?_
  refine lv_iload_n hx hb dL_count_3 rfl (lv_at hl 1 rfl) ?_
  refine k_Vi (q0 := 0) (As := [.int x]) (rest := [.int 0, .ref od]) (w1 := rgW ad cy C N T rn (mdW bd cy C2 S2 rn2 o2 c2 [(od, .inl (cy 13, 1, .inr (.inl fo)))])) (G := (cnF N T rn x)) S I (c_rcount1 l D cy A ad C N T rn (mdW bd cy C2 S2 rn2 o2 c2 [(od, .inl (cy 13, 1, .inr (.inl fo)))]) hT x hx1) (cwV 1 hts gL_count_X3_count rfl rfl rfl (by decide +kernel) ⟨(Nat.le_of_ble_eq_true rfl), (Nat.le_of_ble_eq_true rfl)⟩) rfl rfl rfl rfl hl.1 rfl (Nat.le_of_ble_eq_true rfl) dL_count_4 ⟨Nat.zero_le _, Nat.zero_le _⟩ (fun H locs I => ?_)
  refine lv_i2l (v := (cnF N T rn x).toInt64) hx hb dL_count_7 rfl ?_
  refine k_last (q0 := 23) (t0 := 13) (j := 0) (n := 1) (w1 := rgW ad cy C N T rn (mdW bd cy C2 S2 rn2 o2 c2 [(od, .inl (cy 13, 1, .inr (.inl (vp_updL fo 0 ((cnF N T rn x).toInt64)))))])) S I rfl rfl (by decide) (by decide) rfl rfl dL_count_8 (fun H locs I => ?_)
  refine lv_goto (tgt := 15) hx hb dL_count_9 (by decide) ?_
  refine lv_iconst (v := 0) hx hb dL_count_15 (by decide) ?_
  exact k_iret S hr hlk I rfl rfl dL_count_16
set_option maxHeartbeats 4000000 in
set_option maxRecDepth 100000 in
/-- run, no such level -/
theorem c_Lrun0 (l : Launch) (hfl : l.stackTraces = false) (D : va_G) (cy : Nat → ClassId) (A : Nat → Prop) (ad bd : Nat → Nat) (C : rC) (N : rN) (T : rT) (rn : Int32) (C2 : rC) (S2 : mS) (rn2 o2 c2 : Int32) (od : Nat) (fo : Nat → Int64) (x b v : Int32) (hx0 : isL x = 0) : Met l yL_run wtL_run ({ frames := 82, cells := 1, slots := 8, locals := 3100 }) (va_Pc [.ref (ad 0), .int x, .int b, .int v, .ref od] (KP D cy A (rgW ad cy C N T rn (mdW bd cy C2 S2 rn2 o2 c2 [(od, .inl (cy 13, 1, .inr (.inl fo)))])))) (va_Qi (fun (r : Int32) (_ : Unit) => r = 5) (fun _ => KB D cy A (rgW ad cy C N T rn (mdW bd cy C2 S2 rn2 o2 c2 [(od, .inl (cy 13, 1, .inr (.inl fo)))]))) A) 1 8 A := by
  refine k_openH (own := RL) (maxL := 6) (ret := (some .int)) (by decide) rfl rfl (Nat.le_of_ble_eq_true rfl) (fun p e s m args below meth c S hr hlk htab I ls hl => ?_)
  obtain ⟨hx, hb, hml, hown, hts⟩ := id S
  have hl : lv_has ls 6 [(0, .ref (ad 0)), (1, .int x), (2, .int b), (3, .int v), (4, .ref od)] := hl
  refine lv_aload hx hb dL_run_0 (lv_at hl 4 rfl) ?_
  refine lv_iconst (v := 0) hx hb dL_run_2 (by decide) ?_
  refine lv_aload_n hx hb dL_run_3 rfl (lv_at hl 0 rfl) ?_
  refine lv_iload_n hx hb dL_run_4 rfl (lv_at hl 1 rfl) ?_
  refine lv_iload_n hx hb dL_run_5 rfl (lv_at hl 2 rfl) ?_
  refine lv_iload_n hx hb dL_run_6 rfl (lv_at hl 3 rfl) ?_
  refine k_VX (Qc := fun _ _ _ _ => True) (q0 := 0) (As := [.int x, .int b, .int v]) (rest := [.int 0, .ref od]) (w1 := rgW ad cy C N T rn (mdW bd cy C2 S2 rn2 o2 c2 [(od, .inl (cy 13, 1, .inr (.inl fo)))])) S I (c_rrun0 l hfl D cy A ad C N T rn (mdW bd cy C2 S2 rn2 o2 c2 [(od, .inl (cy 13, 1, .inr (.inl fo)))]) x b v hx0) (cwV 3 hts (gx_V gL_run_X3_run xw_good) rfl rfl rfl (by decide +kernel) ⟨(Nat.le_of_ble_eq_true rfl), (Nat.le_of_ble_eq_true rfl)⟩) rfl rfl rfl rfl hl.1 rfl (Nat.le_of_ble_eq_true rfl) dL_run_7 ⟨(Nat.le_of_ble_eq_true rfl), (Nat.le_of_ble_eq_true rfl)⟩ (fun H locs ce q9 I g1 g2 g3 => ?_)
  refine k_catch (E := "java/lang/ArrayIndexOutOfBoundsException") (tgt := 30) [⟨0, 11, 14, 19⟩, ⟨0, 11, 18, 21⟩, ⟨0, 11, 22, 23⟩, ⟨0, 11, 26, 25⟩] ⟨0, 11, 30, 13⟩ [] S I htab rfl (by decide +kernel) (by decide) (by decide) (List.mem_append_left _ (by decide +kernel)) (by decide +kernel) g1 g2 g3 rfl ?_
  refine lv_astore (lv' := [(5, .ref q9), (0, .ref (ad 0)), (1, .int x), (2, .int b), (3, .int v), (4, .ref od)]) hx hb dL_run_30 hl (by decide) rfl (fun ls hl => ?_)
  refine lv_iconst (v := 5) hx hb dL_run_32 (by decide) ?_
  exact k_iret S hr hlk I rfl rfl dL_run_33
set_option maxHeartbeats 4000000 in
set_option maxRecDepth 100000 in
/-- run that answers -/
theorem c_Lrun1 (l : Launch) (hfl : l.stackTraces = false) (D : va_G) (cy : Nat → ClassId) (A : Nat → Prop) (ad bd : Nat → Nat) (C : rC) (N : rN) (T : rT) (rn : Int32) (C2 : rC) (S2 : mS) (rn2 o2 c2 : Int32) (od : Nat) (fo : Nat → Int64) (k : Nat) (hk : k < 6) (b v : Int32) (hkd : kdT (dlF C k (gdF C k) b v ((N.1, 0), dpT T)).1.2 = 0) : Met l yL_run wsL_run ({ frames := 82, cells := 0, slots := 0, locals := 3100 }) (va_Pc [.ref (ad 0), .int (nI k), .int b, .int v, .ref od] (KP D cy A (rgW ad cy C N T rn (mdW bd cy C2 S2 rn2 o2 c2 [(od, .inl (cy 13, 1, .inr (.inl fo)))])))) (va_Qi (fun (r : Int32) (_ : Unit) => r = 0) (fun _ => KB D cy A (rgW ad cy C ((dlF C k (gdF C k) b v ((N.1, 0), dpT T)).1.1) ((dlF C k (gdF C k) b v ((N.1, 0), dpT T)).1.2) (rn + 1) (mdW bd cy C2 S2 rn2 o2 c2 [(od, .inl (cy 13, 1, .inr (.inl (vp_updL fo 0 ((dlF C k (gdF C k) b v ((N.1, 0), dpT T)).2)))))]))) A) 0 0 A := by
  refine k_openH (own := RL) (maxL := 6) (ret := (some .int)) (by decide) rfl rfl (Nat.le_of_ble_eq_true rfl) (fun p e s m args below meth c S hr hlk htab I ls hl => ?_)
  obtain ⟨hx, hb, hml, hown, hts⟩ := id S
  have hl : lv_has ls 6 [(0, .ref (ad 0)), (1, .int (nI k)), (2, .int b), (3, .int v), (4, .ref od)] := hl
  refine lv_aload hx hb dL_run_0 (lv_at hl 4 rfl) ?_
  refine lv_iconst (v := 0) hx hb dL_run_2 (by decide) ?_
  refine lv_aload_n hx hb dL_run_3 rfl (lv_at hl 0 rfl) ?_
  refine lv_iload_n hx hb dL_run_4 rfl (lv_at hl 1 rfl) ?_
  refine lv_iload_n hx hb dL_run_5 rfl (lv_at hl 2 rfl) ?_
  refine lv_iload_n hx hb dL_run_6 rfl (lv_at hl 3 rfl) ?_
  refine k_Vl (q0 := 0) (As := [.int (nI k), .int b, .int v]) (rest := [.int 0, .ref od]) (w1 := rgW ad cy C ((dlF C k (gdF C k) b v ((N.1, 0), dpT T)).1.1) ((dlF C k (gdF C k) b v ((N.1, 0), dpT T)).1.2) (rn + 1) (mdW bd cy C2 S2 rn2 o2 c2 [(od, .inl (cy 13, 1, .inr (.inl fo)))])) (G := ((dlF C k (gdF C k) b v ((N.1, 0), dpT T)).2)) S I (c_rrun1 l D cy A ad C N T rn (mdW bd cy C2 S2 rn2 o2 c2 [(od, .inl (cy 13, 1, .inr (.inl fo)))]) k hk b v hkd) (cwV 3 hts gL_run_X3_run rfl rfl rfl (by decide +kernel) ⟨(Nat.le_of_ble_eq_true rfl), (Nat.le_of_ble_eq_true rfl)⟩) rfl rfl rfl rfl hl.1 rfl (Nat.le_of_ble_eq_true rfl) dL_run_7 ⟨Nat.zero_le _, Nat.zero_le _⟩ (fun H locs I => ?_)
  refine k_last (q0 := 23) (t0 := 13) (j := 0) (n := 1) (w1 := rgW ad cy C ((dlF C k (gdF C k) b v ((N.1, 0), dpT T)).1.1) ((dlF C k (gdF C k) b v ((N.1, 0), dpT T)).1.2) (rn + 1) (mdW bd cy C2 S2 rn2 o2 c2 [(od, .inl (cy 13, 1, .inr (.inl (vp_updL fo 0 ((dlF C k (gdF C k) b v ((N.1, 0), dpT T)).2)))))])) S I rfl rfl (by decide) (by decide) rfl rfl dL_run_10 (fun H locs I => ?_)
  refine lv_goto (tgt := 34) hx hb dL_run_11 (by decide) ?_
  refine lv_iconst (v := 0) hx hb dL_run_34 (by decide) ?_
  exact k_iret S hr hlk I rfl rfl dL_run_35
set_option maxHeartbeats 4000000 in
set_option maxRecDepth 100000 in
/-- run, out of which kind 1 comes -/
theorem c_LrunX1 (l : Launch) (hfl : l.stackTraces = false) (D : va_G) (cy : Nat → ClassId) (A : Nat → Prop) (ad bd : Nat → Nat) (C : rC) (N : rN) (T : rT) (rn : Int32) (C2 : rC) (S2 : mS) (rn2 o2 c2 : Int32) (od : Nat) (fo : Nat → Int64) (k : Nat) (hk : k < 6) (b v : Int32) (hkd : kdT (dlF C k (gdF C k) b v ((N.1, 0), dpT T)).1.2 = 1) : Met l yL_run wtL_run ({ frames := 82, cells := 1, slots := 8, locals := 3100 }) (va_Pc [.ref (ad 0), .int (nI k), .int b, .int v, .ref od] (KP D cy A (rgW ad cy C N T rn (mdW bd cy C2 S2 rn2 o2 c2 [(od, .inl (cy 13, 1, .inr (.inl fo)))])))) (va_Qi (fun (r : Int32) (_ : Unit) => r = 2) (fun _ => KB D cy A (rgW ad cy C ((dlF C k (gdF C k) b v ((N.1, 0), dpT T)).1.1) ((dlF C k (gdF C k) b v ((N.1, 0), dpT T)).1.2) (rn + 1) (mdW bd cy C2 S2 rn2 o2 c2 [(od, .inl (cy 13, 1, .inr (.inl fo)))]))) A) 1 8 A := by
  refine k_openH (own := RL) (maxL := 6) (ret := (some .int)) (by decide) rfl rfl (Nat.le_of_ble_eq_true rfl) (fun p e s m args below meth c S hr hlk htab I ls hl => ?_)
  obtain ⟨hx, hb, hml, hown, hts⟩ := id S
  have hl : lv_has ls 6 [(0, .ref (ad 0)), (1, .int (nI k)), (2, .int b), (3, .int v), (4, .ref od)] := hl
  refine lv_aload hx hb dL_run_0 (lv_at hl 4 rfl) ?_
  refine lv_iconst (v := 0) hx hb dL_run_2 (by decide) ?_
  refine lv_aload_n hx hb dL_run_3 rfl (lv_at hl 0 rfl) ?_
  refine lv_iload_n hx hb dL_run_4 rfl (lv_at hl 1 rfl) ?_
  refine lv_iload_n hx hb dL_run_5 rfl (lv_at hl 2 rfl) ?_
  refine lv_iload_n hx hb dL_run_6 rfl (lv_at hl 3 rfl) ?_
  refine k_VX (Qc := fun _ _ _ _ => True) (q0 := 0) (As := [.int (nI k), .int b, .int v]) (rest := [.int 0, .ref od]) (w1 := rgW ad cy C ((dlF C k (gdF C k) b v ((N.1, 0), dpT T)).1.1) ((dlF C k (gdF C k) b v ((N.1, 0), dpT T)).1.2) (rn + 1) (mdW bd cy C2 S2 rn2 o2 c2 [(od, .inl (cy 13, 1, .inr (.inl fo)))])) S I (c_rrunX1 l hfl D cy A ad C N T rn (mdW bd cy C2 S2 rn2 o2 c2 [(od, .inl (cy 13, 1, .inr (.inl fo)))]) k hk b v hkd) (cwV 3 hts (gx_V gL_run_X3_run xw_good) rfl rfl rfl (by decide +kernel) ⟨(Nat.le_of_ble_eq_true rfl), (Nat.le_of_ble_eq_true rfl)⟩) rfl rfl rfl rfl hl.1 rfl (Nat.le_of_ble_eq_true rfl) dL_run_7 ⟨(Nat.le_of_ble_eq_true rfl), (Nat.le_of_ble_eq_true rfl)⟩ (fun H locs ce q9 I g1 g2 g3 => ?_)
  refine k_catch (E := "java/lang/IllegalStateException") (tgt := 18) [⟨0, 11, 14, 19⟩] ⟨0, 11, 18, 21⟩ [⟨0, 11, 22, 23⟩, ⟨0, 11, 26, 25⟩, ⟨0, 11, 30, 13⟩] S I htab rfl (by decide +kernel) (by decide) (by decide) (List.mem_append_left _ (by decide +kernel)) (by decide +kernel) g1 g2 g3 rfl ?_
  refine lv_astore (lv' := [(5, .ref q9), (0, .ref (ad 0)), (1, .int (nI k)), (2, .int b), (3, .int v), (4, .ref od)]) hx hb dL_run_18 hl (by decide) rfl (fun ls hl => ?_)
  refine lv_iconst (v := 2) hx hb dL_run_20 (by decide) ?_
  exact k_iret S hr hlk I rfl rfl dL_run_21
set_option maxHeartbeats 4000000 in
set_option maxRecDepth 100000 in
/-- run, out of which kind 2 comes -/
theorem c_LrunX2 (l : Launch) (hfl : l.stackTraces = false) (D : va_G) (cy : Nat → ClassId) (A : Nat → Prop) (ad bd : Nat → Nat) (C : rC) (N : rN) (T : rT) (rn : Int32) (C2 : rC) (S2 : mS) (rn2 o2 c2 : Int32) (od : Nat) (fo : Nat → Int64) (k : Nat) (hk : k < 6) (b v : Int32) (hkd : kdT (dlF C k (gdF C k) b v ((N.1, 0), dpT T)).1.2 = 2) : Met l yL_run wtL_run ({ frames := 82, cells := 1, slots := 8, locals := 3100 }) (va_Pc [.ref (ad 0), .int (nI k), .int b, .int v, .ref od] (KP D cy A (rgW ad cy C N T rn (mdW bd cy C2 S2 rn2 o2 c2 [(od, .inl (cy 13, 1, .inr (.inl fo)))])))) (va_Qi (fun (r : Int32) (_ : Unit) => r = 3) (fun _ => KB D cy A (rgW ad cy C ((dlF C k (gdF C k) b v ((N.1, 0), dpT T)).1.1) ((dlF C k (gdF C k) b v ((N.1, 0), dpT T)).1.2) (rn + 1) (mdW bd cy C2 S2 rn2 o2 c2 [(od, .inl (cy 13, 1, .inr (.inl fo)))]))) A) 1 8 A := by
  refine k_openH (own := RL) (maxL := 6) (ret := (some .int)) (by decide) rfl rfl (Nat.le_of_ble_eq_true rfl) (fun p e s m args below meth c S hr hlk htab I ls hl => ?_)
  obtain ⟨hx, hb, hml, hown, hts⟩ := id S
  have hl : lv_has ls 6 [(0, .ref (ad 0)), (1, .int (nI k)), (2, .int b), (3, .int v), (4, .ref od)] := hl
  refine lv_aload hx hb dL_run_0 (lv_at hl 4 rfl) ?_
  refine lv_iconst (v := 0) hx hb dL_run_2 (by decide) ?_
  refine lv_aload_n hx hb dL_run_3 rfl (lv_at hl 0 rfl) ?_
  refine lv_iload_n hx hb dL_run_4 rfl (lv_at hl 1 rfl) ?_
  refine lv_iload_n hx hb dL_run_5 rfl (lv_at hl 2 rfl) ?_
  refine lv_iload_n hx hb dL_run_6 rfl (lv_at hl 3 rfl) ?_
  refine k_VX (Qc := fun _ _ _ _ => True) (q0 := 0) (As := [.int (nI k), .int b, .int v]) (rest := [.int 0, .ref od]) (w1 := rgW ad cy C ((dlF C k (gdF C k) b v ((N.1, 0), dpT T)).1.1) ((dlF C k (gdF C k) b v ((N.1, 0), dpT T)).1.2) (rn + 1) (mdW bd cy C2 S2 rn2 o2 c2 [(od, .inl (cy 13, 1, .inr (.inl fo)))])) S I (c_rrunX2 l hfl D cy A ad C N T rn (mdW bd cy C2 S2 rn2 o2 c2 [(od, .inl (cy 13, 1, .inr (.inl fo)))]) k hk b v hkd) (cwV 3 hts (gx_V gL_run_X3_run xw_good) rfl rfl rfl (by decide +kernel) ⟨(Nat.le_of_ble_eq_true rfl), (Nat.le_of_ble_eq_true rfl)⟩) rfl rfl rfl rfl hl.1 rfl (Nat.le_of_ble_eq_true rfl) dL_run_7 ⟨(Nat.le_of_ble_eq_true rfl), (Nat.le_of_ble_eq_true rfl)⟩ (fun H locs ce q9 I g1 g2 g3 => ?_)
  refine k_catch (E := "java/lang/UnsupportedOperationException") (tgt := 22) [⟨0, 11, 14, 19⟩, ⟨0, 11, 18, 21⟩] ⟨0, 11, 22, 23⟩ [⟨0, 11, 26, 25⟩, ⟨0, 11, 30, 13⟩] S I htab rfl (by decide +kernel) (by decide) (by decide) (List.mem_append_left _ (by decide +kernel)) (by decide +kernel) g1 g2 g3 rfl ?_
  refine lv_astore (lv' := [(5, .ref q9), (0, .ref (ad 0)), (1, .int (nI k)), (2, .int b), (3, .int v), (4, .ref od)]) hx hb dL_run_22 hl (by decide) rfl (fun ls hl => ?_)
  refine lv_iconst (v := 3) hx hb dL_run_24 (by decide) ?_
  exact k_iret S hr hlk I rfl rfl dL_run_25
set_option maxHeartbeats 4000000 in
set_option maxRecDepth 100000 in
/-- run, out of which kind 3 comes -/
theorem c_LrunX3 (l : Launch) (hfl : l.stackTraces = false) (D : va_G) (cy : Nat → ClassId) (A : Nat → Prop) (ad bd : Nat → Nat) (C : rC) (N : rN) (T : rT) (rn : Int32) (C2 : rC) (S2 : mS) (rn2 o2 c2 : Int32) (od : Nat) (fo : Nat → Int64) (k : Nat) (hk : k < 6) (b v : Int32) (hkd : kdT (dlF C k (gdF C k) b v ((N.1, 0), dpT T)).1.2 = 3) : Met l yL_run wtL_run ({ frames := 82, cells := 1, slots := 8, locals := 3100 }) (va_Pc [.ref (ad 0), .int (nI k), .int b, .int v, .ref od] (KP D cy A (rgW ad cy C N T rn (mdW bd cy C2 S2 rn2 o2 c2 [(od, .inl (cy 13, 1, .inr (.inl fo)))])))) (va_Qi (fun (r : Int32) (_ : Unit) => r = 1) (fun _ => KB D cy A (rgW ad cy C ((dlF C k (gdF C k) b v ((N.1, 0), dpT T)).1.1) ((dlF C k (gdF C k) b v ((N.1, 0), dpT T)).1.2) (rn + 1) (mdW bd cy C2 S2 rn2 o2 c2 [(od, .inl (cy 13, 1, .inr (.inl fo)))]))) A) 1 8 A := by
  refine k_openH (own := RL) (maxL := 6) (ret := (some .int)) (by decide) rfl rfl (Nat.le_of_ble_eq_true rfl) (fun p e s m args below meth c S hr hlk htab I ls hl => ?_)
  obtain ⟨hx, hb, hml, hown, hts⟩ := id S
  have hl : lv_has ls 6 [(0, .ref (ad 0)), (1, .int (nI k)), (2, .int b), (3, .int v), (4, .ref od)] := hl
  refine lv_aload hx hb dL_run_0 (lv_at hl 4 rfl) ?_
  refine lv_iconst (v := 0) hx hb dL_run_2 (by decide) ?_
  refine lv_aload_n hx hb dL_run_3 rfl (lv_at hl 0 rfl) ?_
  refine lv_iload_n hx hb dL_run_4 rfl (lv_at hl 1 rfl) ?_
  refine lv_iload_n hx hb dL_run_5 rfl (lv_at hl 2 rfl) ?_
  refine lv_iload_n hx hb dL_run_6 rfl (lv_at hl 3 rfl) ?_
  refine k_VX (Qc := fun _ _ _ _ => True) (q0 := 0) (As := [.int (nI k), .int b, .int v]) (rest := [.int 0, .ref od]) (w1 := rgW ad cy C ((dlF C k (gdF C k) b v ((N.1, 0), dpT T)).1.1) ((dlF C k (gdF C k) b v ((N.1, 0), dpT T)).1.2) (rn + 1) (mdW bd cy C2 S2 rn2 o2 c2 [(od, .inl (cy 13, 1, .inr (.inl fo)))])) S I (c_rrunX3 l hfl D cy A ad C N T rn (mdW bd cy C2 S2 rn2 o2 c2 [(od, .inl (cy 13, 1, .inr (.inl fo)))]) k hk b v hkd) (cwV 3 hts (gx_V gL_run_X3_run xw_good) rfl rfl rfl (by decide +kernel) ⟨(Nat.le_of_ble_eq_true rfl), (Nat.le_of_ble_eq_true rfl)⟩) rfl rfl rfl rfl hl.1 rfl (Nat.le_of_ble_eq_true rfl) dL_run_7 ⟨(Nat.le_of_ble_eq_true rfl), (Nat.le_of_ble_eq_true rfl)⟩ (fun H locs ce q9 I g1 g2 g3 => ?_)
  refine k_catch (E := "java/lang/ArithmeticException") (tgt := 14) [] ⟨0, 11, 14, 19⟩ [⟨0, 11, 18, 21⟩, ⟨0, 11, 22, 23⟩, ⟨0, 11, 26, 25⟩, ⟨0, 11, 30, 13⟩] S I htab rfl (by decide +kernel) (by decide) (by decide) (List.mem_append_left _ (by decide +kernel)) (by decide +kernel) g1 g2 g3 rfl ?_
  refine lv_astore (lv' := [(5, .ref q9), (0, .ref (ad 0)), (1, .int (nI k)), (2, .int b), (3, .int v), (4, .ref od)]) hx hb dL_run_14 hl (by decide) rfl (fun ls hl => ?_)
  refine lv_iconst (v := 1) hx hb dL_run_16 (by decide) ?_
  exact k_iret S hr hlk I rfl rfl dL_run_17
set_option maxHeartbeats 4000000 in
set_option maxRecDepth 100000 in
/-- run, out of which kind 4 comes -/
theorem c_LrunX4 (l : Launch) (hfl : l.stackTraces = false) (D : va_G) (cy : Nat → ClassId) (A : Nat → Prop) (ad bd : Nat → Nat) (C : rC) (N : rN) (T : rT) (rn : Int32) (C2 : rC) (S2 : mS) (rn2 o2 c2 : Int32) (od : Nat) (fo : Nat → Int64) (k : Nat) (hk : k < 6) (b v : Int32) (hkd : kdT (dlF C k (gdF C k) b v ((N.1, 0), dpT T)).1.2 = 4) : Met l yL_run wtL_run ({ frames := 82, cells := 1, slots := 8, locals := 3100 }) (va_Pc [.ref (ad 0), .int (nI k), .int b, .int v, .ref od] (KP D cy A (rgW ad cy C N T rn (mdW bd cy C2 S2 rn2 o2 c2 [(od, .inl (cy 13, 1, .inr (.inl fo)))])))) (va_Qi (fun (r : Int32) (_ : Unit) => r = 4) (fun _ => KB D cy A (rgW ad cy C ((dlF C k (gdF C k) b v ((N.1, 0), dpT T)).1.1) ((dlF C k (gdF C k) b v ((N.1, 0), dpT T)).1.2) (rn + 1) (mdW bd cy C2 S2 rn2 o2 c2 [(od, .inl (cy 13, 1, .inr (.inl fo)))]))) A) 1 8 A := by
  refine k_openH (own := RL) (maxL := 6) (ret := (some .int)) (by decide) rfl rfl (Nat.le_of_ble_eq_true rfl) (fun p e s m args below meth c S hr hlk htab I ls hl => ?_)
  obtain ⟨hx, hb, hml, hown, hts⟩ := id S
  have hl : lv_has ls 6 [(0, .ref (ad 0)), (1, .int (nI k)), (2, .int b), (3, .int v), (4, .ref od)] := hl
  refine lv_aload hx hb dL_run_0 (lv_at hl 4 rfl) ?_
  refine lv_iconst (v := 0) hx hb dL_run_2 (by decide) ?_
  refine lv_aload_n hx hb dL_run_3 rfl (lv_at hl 0 rfl) ?_
  refine lv_iload_n hx hb dL_run_4 rfl (lv_at hl 1 rfl) ?_
  refine lv_iload_n hx hb dL_run_5 rfl (lv_at hl 2 rfl) ?_
  refine lv_iload_n hx hb dL_run_6 rfl (lv_at hl 3 rfl) ?_
  refine k_VX (Qc := fun _ _ _ _ => True) (q0 := 0) (As := [.int (nI k), .int b, .int v]) (rest := [.int 0, .ref od]) (w1 := rgW ad cy C ((dlF C k (gdF C k) b v ((N.1, 0), dpT T)).1.1) ((dlF C k (gdF C k) b v ((N.1, 0), dpT T)).1.2) (rn + 1) (mdW bd cy C2 S2 rn2 o2 c2 [(od, .inl (cy 13, 1, .inr (.inl fo)))])) S I (c_rrunX4 l hfl D cy A ad C N T rn (mdW bd cy C2 S2 rn2 o2 c2 [(od, .inl (cy 13, 1, .inr (.inl fo)))]) k hk b v hkd) (cwV 3 hts (gx_V gL_run_X3_run xw_good) rfl rfl rfl (by decide +kernel) ⟨(Nat.le_of_ble_eq_true rfl), (Nat.le_of_ble_eq_true rfl)⟩) rfl rfl rfl rfl hl.1 rfl (Nat.le_of_ble_eq_true rfl) dL_run_7 ⟨(Nat.le_of_ble_eq_true rfl), (Nat.le_of_ble_eq_true rfl)⟩ (fun H locs ce q9 I g1 g2 g3 => ?_)
  refine k_catch (E := Bundle.nN) (tgt := 26) [⟨0, 11, 14, 19⟩, ⟨0, 11, 18, 21⟩, ⟨0, 11, 22, 23⟩] ⟨0, 11, 26, 25⟩ [⟨0, 11, 30, 13⟩] S I htab rfl (by decide +kernel) (by decide) (by decide) (List.mem_append_left _ (by decide +kernel)) (by decide +kernel) g1 g2 g3 rfl ?_
  refine lv_astore (lv' := [(5, .ref q9), (0, .ref (ad 0)), (1, .int (nI k)), (2, .int b), (3, .int v), (4, .ref od)]) hx hb dL_run_26 hl (by decide) rfl (fun ls hl => ?_)
  refine lv_iconst (v := 4) hx hb dL_run_28 (by decide) ?_
  exact k_iret S hr hlk I rfl rfl dL_run_29
set_option maxHeartbeats 4000000 in
set_option maxRecDepth 100000 in
/-- run, out of which kind 5 comes -/
theorem c_LrunX5 (l : Launch) (hfl : l.stackTraces = false) (D : va_G) (cy : Nat → ClassId) (A : Nat → Prop) (ad bd : Nat → Nat) (C : rC) (N : rN) (T : rT) (rn : Int32) (C2 : rC) (S2 : mS) (rn2 o2 c2 : Int32) (od : Nat) (fo : Nat → Int64) (k : Nat) (hk : k < 6) (b v : Int32) (hkd : kdT (dlF C k (gdF C k) b v ((N.1, 0), dpT T)).1.2 = 5) : Met l yL_run wtL_run ({ frames := 82, cells := 1, slots := 8, locals := 3100 }) (va_Pc [.ref (ad 0), .int (nI k), .int b, .int v, .ref od] (KP D cy A (rgW ad cy C N T rn (mdW bd cy C2 S2 rn2 o2 c2 [(od, .inl (cy 13, 1, .inr (.inl fo)))])))) (va_Qi (fun (r : Int32) (_ : Unit) => r = 5) (fun _ => KB D cy A (rgW ad cy C ((dlF C k (gdF C k) b v ((N.1, 0), dpT T)).1.1) ((dlF C k (gdF C k) b v ((N.1, 0), dpT T)).1.2) (rn + 1) (mdW bd cy C2 S2 rn2 o2 c2 [(od, .inl (cy 13, 1, .inr (.inl fo)))]))) A) 1 8 A := by
  refine k_openH (own := RL) (maxL := 6) (ret := (some .int)) (by decide) rfl rfl (Nat.le_of_ble_eq_true rfl) (fun p e s m args below meth c S hr hlk htab I ls hl => ?_)
  obtain ⟨hx, hb, hml, hown, hts⟩ := id S
  have hl : lv_has ls 6 [(0, .ref (ad 0)), (1, .int (nI k)), (2, .int b), (3, .int v), (4, .ref od)] := hl
  refine lv_aload hx hb dL_run_0 (lv_at hl 4 rfl) ?_
  refine lv_iconst (v := 0) hx hb dL_run_2 (by decide) ?_
  refine lv_aload_n hx hb dL_run_3 rfl (lv_at hl 0 rfl) ?_
  refine lv_iload_n hx hb dL_run_4 rfl (lv_at hl 1 rfl) ?_
  refine lv_iload_n hx hb dL_run_5 rfl (lv_at hl 2 rfl) ?_
  refine lv_iload_n hx hb dL_run_6 rfl (lv_at hl 3 rfl) ?_
  refine k_VX (Qc := fun _ _ _ _ => True) (q0 := 0) (As := [.int (nI k), .int b, .int v]) (rest := [.int 0, .ref od]) (w1 := rgW ad cy C ((dlF C k (gdF C k) b v ((N.1, 0), dpT T)).1.1) ((dlF C k (gdF C k) b v ((N.1, 0), dpT T)).1.2) (rn + 1) (mdW bd cy C2 S2 rn2 o2 c2 [(od, .inl (cy 13, 1, .inr (.inl fo)))])) S I (c_rrunX5 l hfl D cy A ad C N T rn (mdW bd cy C2 S2 rn2 o2 c2 [(od, .inl (cy 13, 1, .inr (.inl fo)))]) k hk b v hkd) (cwV 3 hts (gx_V gL_run_X3_run xw_good) rfl rfl rfl (by decide +kernel) ⟨(Nat.le_of_ble_eq_true rfl), (Nat.le_of_ble_eq_true rfl)⟩) rfl rfl rfl rfl hl.1 rfl (Nat.le_of_ble_eq_true rfl) dL_run_7 ⟨(Nat.le_of_ble_eq_true rfl), (Nat.le_of_ble_eq_true rfl)⟩ (fun H locs ce q9 I g1 g2 g3 => ?_)
  refine k_catch (E := "java/lang/ArrayIndexOutOfBoundsException") (tgt := 30) [⟨0, 11, 14, 19⟩, ⟨0, 11, 18, 21⟩, ⟨0, 11, 22, 23⟩, ⟨0, 11, 26, 25⟩] ⟨0, 11, 30, 13⟩ [] S I htab rfl (by decide +kernel) (by decide) (by decide) (List.mem_append_left _ (by decide +kernel)) (by decide +kernel) g1 g2 g3 rfl ?_
  refine lv_astore (lv' := [(5, .ref q9), (0, .ref (ad 0)), (1, .int (nI k)), (2, .int b), (3, .int v), (4, .ref od)]) hx hb dL_run_30 hl (by decide) rfl (fun ls hl => ?_)
  refine lv_iconst (v := 5) hx hb dL_run_32 (by decide) ?_
  exact k_iret S hr hlk I rfl rfl dL_run_33
