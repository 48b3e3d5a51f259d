/-! THE LAW'S FOUR: set, run, note, count with their handlers, laid by wip/p7/lawcalls7.py -/
section KL
variable {p : Program} {l : Launch} {e : Env} {R : Room} {s : State} {m : MethodId} {args : Array Value} {below : List Frame} {meth : Method} {c : Code} {H : Heap} {locs : List Loc} {cells slots : Nat} {Q : State → Prop}
variable {cc : ByteArray} {nL : Nat} {Ts : List Cond} {own : String} {D : va_G} {cy : Nat → ClassId} {A : Nat → Prop} {ww w1 : va_W} {pc : Nat} {ls : Array Slot} {rest st0 : List Value} {a q0 : Nat}
/-- E is caught here, by the row x of the method's table -/
theorem k_catch {E : String} {ce : Cell} {q9 tgt : Nat} {hh : List (Nat × Nat × Nat × Nat)} (pre : List ExceptionTableEntry) (x : ExceptionTableEntry) (suf : List ExceptionTableEntry) (S : CallFix p m c cc nL s args Ts own) (I : KI D cy A ww s H locs) (htab : c.exceptionTable.toList = tableOf hh) (hsp : tableOf hh = pre ++ x :: suf)
    (hpass : ∀ z ∈ pre, ∃ q ∈ ncl, q.1 = E ∧ z.catchType ≠ 0 ∧ Cond.classLink own z.catchType q.2 ∈ Ts) (hx : covers x pc = true) (h0 : x.catchType ≠ 0) (hlink : Cond.classLink own x.catchType E ∈ Ts) (hcast : Cond.castable E E ∈ nwl) (hcell : H[q9]? = some ce) (hv : ce.vm = .none) (hcl : s.vm.findClass E = some ce.cls) (htg : x.handlerPc = tgt)
    (kk : W p l e R s m args below meth c H locs cells slots Q (F0 m tgt ls [.ref q9])) : vx_W p l e R s m args below meth c H locs cells slots Q (F0 m pc ls rest) q9 := by
  subst htg
  refine vx_catch S.2.2.2.1 pre x suf (htab.trans hsp) (fun z hz => ?_) hx h0 (S.2.2.2.2 _ hlink) ((I.2.1.2.2.2.1 _ hcast).use rfl) hcell hv hcl kk
  obtain ⟨q, hq, rfl, h1, h2⟩ := hpass z hz
  exact Or.inr ⟨h1, q.2, S.2.2.2.2 _ h2, I.2.1.2.2.2.2.1 q hq⟩
/-- a long comes back, whichever -/
theorem k_lretT {v : Int64} (S : CallFix p m c cc nL s args Ts own) (hr : meth.sig.returnType = some .long) (hlk : meth.locks = false) (I : KI D cy A ww s H locs) (hw : ww = w1) (d : decode cc pc = .ok (.lreturn, 1)) :
    W p l e R s m args below meth c H locs cells slots (MQ below (va_Ql (fun (_ : Int64) (_ : Unit) => True) (fun _ => KB D cy A w1) A) args s cells slots A) (F0 m pc ls [.long v]) := by
  obtain ⟨h1, h2, h3, h4, h5, h6⟩ := I
  subst hw
  exact W.lret (v := v) S.1 S.2.1 hr (fun t ht hW => ⟨⟨v, (), rfl, trivial, by rw [ht]; exact h4, va_K.moved hW.alike h1, h5⟩, h6.F ht⟩) h6.2.2 d hlk
section KLV
variable {index maxL mc ms n : Nat} {y : MethodName} {bytes : ByteArray} {ret : Option FieldType} {ws : List Cond} {rm : Room} {As : List Value}
/-- a static call of a method with handlers, that answers a long, whichever -/
theorem k_SWl {hh : List (Nat × Nat × Nat × Nat)} (S : CallFix p m c cc nL s args Ts own) (I : KI D cy A ww s H locs) (hM : Met l y ws rm (va_Pc As (KP D cy A ww)) (va_Ql (fun (_ : Int64) (_ : Unit) => True) (fun _ => KB D cy A w1) A) mc ms A)
    (cw : vx_CSW R s args own index y bytes maxL ret hh ws rm mc ms n) (hn : As.length = n) (hl : ls.size = nL) (hst : st0 = As.reverse ++ rest) (hr : (rest.map fun v => v.category).sum ≤ 8) (d : decode cc pc = .ok (.invokestatic index, 3)) (hf : cells + mc ≤ R.cells ∧ slots + ms ≤ R.slots)
    (kk : ∀ (G : Int64) (H1 : Heap) (locs1 : List Loc), KI D cy A w1 s H1 locs1 → W p l e R s m args below meth c H1 locs1 (cells + mc) (slots + ms) Q (F0 m (pc + 3) ls (.long G :: rest))) : W p l e R s m args below meth c H locs cells slots Q (F0 m pc ls st0) := by
  have hI := I
  obtain ⟨h1, h2, h3, h4, h5, h6⟩ := I
  refine va_calll (vx_runSW (As := As) (rest := rest) S hM cw ⟨KP_blind, fun U hU hW => ⟨rfl, hI.pre hU hW⟩⟩ rfl hn hl hst (lv_room (m := m) (pc := pc) (ls := ls) (rest := st0) hr) d hf) h6 (fun _ _ h => h) (fun _ h => h) (fun r u t H1 locs1 ht hvm hw hB hz1 hk1 hS1 => ?_)
  exact kk r H1 locs1 (hI.post ht hB hS1)
end KLV
end KL
def wtL_set : List Cond := wsL_set ++ xwA
def wtL_run : List Cond := wsL_run ++ xwA
def wtL_note : List Cond := wsL_note ++ xwA
def wtL_count : List Cond := wsL_count ++ xwA
set_option maxHeartbeats 4000000 in
set_option maxRecDepth 100000 in
/-- set, a level -/
theorem c_Lset (l : Launch) (hfl : l.stackTraces = false) (D : va_G) (cy : Nat → ClassId) (A : Nat → Prop) (ad : Nat → Nat) (C : rC) (N : rN) (T : rT) (rn : Int32) (X : va_W) (k : Nat) (hk : k < 6) (a b d v : Int32) : Met l yL_set wsL_set ({ frames := 2, cells := 0, slots := 0, locals := 80 }) (va_Pc [.ref (ad 0), .int (nI k), .int a, .int b, .int d, .int v] (KP D cy A (rgW ad cy C N T rn X))) (va_Qi (fun (r : Int32) (_ : Unit) => r = (C.2.2.2 k)) (fun _ => KB D cy A (rgW ad cy (upd C.1 k a, upd C.2.1 k b, upd C.2.2.1 k d, upd C.2.2.2 k v) N T rn X)) A) 0 0 A := by
  refine k_openH (own := RL) (maxL := 7) (ret := (some .int)) (by decide) rfl rfl (Nat.le_of_ble_eq_true rfl) (fun p e s m args below meth c S hr hlk htab I ls hl => ?_)
  obtain ⟨hx, hb, hml, hown, hts⟩ := id S
  have hl : lv_has ls 7 [(0, .ref (ad 0)), (1, .int (nI k)), (2, .int a), (3, .int b), (4, .int d), (5, .int v)] := hl
  refine lv_aload_n hx hb dL_set_0 rfl (lv_at hl 0 rfl) ?_
  refine lv_iload_n hx hb dL_set_1 rfl (lv_at hl 1 rfl) ?_
  refine lv_iload_n hx hb dL_set_2 rfl (lv_at hl 2 rfl) ?_
  refine lv_iload_n hx hb dL_set_3 rfl (lv_at hl 3 rfl) ?_
  refine lv_iload hx hb dL_set_4 (lv_at hl 4 rfl) ?_
  refine lv_iload hx hb dL_set_6 (lv_at hl 5 rfl) ?_
  refine k_Vi (q0 := 0) (As := [.int (nI k), .int a, .int b, .int d, .int v]) (rest := []) (w1 := rgW ad cy (upd C.1 k a, upd C.2.1 k b, upd C.2.2.1 k d, upd C.2.2.2 k v) N T rn X) (G := (C.2.2.2 k)) S I (c_rset1 l D cy A ad C N T rn X k hk a b d v) (cwV 5 hts gL_set_X3_set rfl rfl rfl (by decide +kernel) ⟨(Nat.le_of_ble_eq_true rfl), (Nat.le_of_ble_eq_true rfl)⟩) rfl rfl rfl rfl hl.1 rfl (Nat.le_of_ble_eq_true rfl) dL_set_8 ⟨Nat.zero_le _, Nat.zero_le _⟩ (fun H locs I => ?_)
  exact k_iret S hr hlk I rfl rfl dL_set_11
set_option maxHeartbeats 4000000 in
set_option maxRecDepth 100000 in
/-- note -/
theorem c_Lnote1 (l : Launch) (hfl : l.stackTraces = false) (D : va_G) (cy : Nat → ClassId) (A : Nat → Prop) (ad : Nat → Nat) (C : rC) (N : rN) (T : rT) (rn : Int32) (X : va_W) (hN : N.2 < 100000) (k : Nat) (h1 : k < N.2) (h2 : k < 64) : Met l yL_note wsL_note ({ frames := 4, cells := 0, slots := 0, locals := 120 }) (va_Pc [.ref (ad 0), .int (nI k)] (KP D cy A (rgW ad cy C N T rn X))) (va_Qi (fun (r : Int32) (_ : Unit) => r = (N.1 k)) (fun _ => KB D cy A (rgW ad cy C N T rn X)) A) 0 0 A := by
  refine k_openH (own := RL) (maxL := 3) (ret := (some .int)) (by decide) rfl rfl (Nat.le_of_ble_eq_true rfl) (fun p e s m args below meth c S hr hlk htab I ls hl => ?_)
  obtain ⟨hx, hb, hml, hown, hts⟩ := id S
  have hl : lv_has ls 3 [(0, .ref (ad 0)), (1, .int (nI k))] := hl
  refine lv_aload_n hx hb dL_note_0 rfl (lv_at hl 0 rfl) ?_
  refine lv_iload_n hx hb dL_note_1 rfl (lv_at hl 1 rfl) ?_
  refine k_Vi (q0 := 0) (As := [.int (nI k)]) (rest := []) (w1 := rgW ad cy C N T rn X) (G := (N.1 k)) S I (c_rnote1 l D cy A ad C N T rn X hN k h1 h2) (cwV 1 hts gL_note_X3_note rfl rfl rfl (by decide +kernel) ⟨(Nat.le_of_ble_eq_true rfl), (Nat.le_of_ble_eq_true rfl)⟩) rfl rfl rfl rfl hl.1 rfl (Nat.le_of_ble_eq_true rfl) dL_note_2 ⟨Nat.zero_le _, Nat.zero_le _⟩ (fun H locs I => ?_)
  exact k_iret S hr hlk I rfl rfl dL_note_5
set_option maxHeartbeats 4000000 in
set_option maxRecDepth 100000 in
/-- count -/
theorem c_Lcount1 (l : Launch) (hfl : l.stackTraces = false) (D : va_G) (cy : Nat → ClassId) (A : Nat → Prop) (ad : Nat → Nat) (C : rC) (N : rN) (T : rT) (rn : Int32) (X : va_W) (hT : T.2.2 ≤ 7) (x : Int32) (hx1 : ¬ x < 0 ∧ ¬ 6 < x) : Met l yL_count wsL_count ({ frames := 4, cells := 0, slots := 0, locals := 120 }) (va_Pc [.ref (ad 0), .int x] (KP D cy A (rgW ad cy C N T rn X))) (va_Qi (fun (r : Int32) (_ : Unit) => r = (cnF N T rn x)) (fun _ => KB D cy A (rgW ad cy C N T rn X)) A) 0 0 A := by
  refine k_openH (own := RL) (maxL := 3) (ret := (some .int)) (by decide) rfl rfl (Nat.le_of_ble_eq_true rfl) (fun p e s m args below meth c S hr hlk htab I ls hl => ?_)
  obtain ⟨hx, hb, hml, hown, hts⟩ := id S
  have hl : lv_has ls 3 [(0, .ref (ad 0)), (1, .int x)] := hl
  refine lv_aload_n hx hb dL_count_0 rfl (lv_at hl 0 rfl) ?_
  refine lv_iload_n hx hb dL_count_1 rfl (lv_at hl 1 rfl) ?_
  refine k_Vi (q0 := 0) (As := [.int x]) (rest := []) (w1 := rgW ad cy C N T rn X) (G := (cnF N T rn x)) S I (c_rcount1 l D cy A ad C N T rn X hT x hx1) (cwV 1 hts gL_count_X3_count rfl rfl rfl (by decide +kernel) ⟨(Nat.le_of_ble_eq_true rfl), (Nat.le_of_ble_eq_true rfl)⟩) rfl rfl rfl rfl hl.1 rfl (Nat.le_of_ble_eq_true rfl) dL_count_2 ⟨Nat.zero_le _, Nat.zero_le _⟩ (fun H locs I => ?_)
  exact k_iret S hr hlk I rfl rfl dL_count_5
set_option maxHeartbeats 4000000 in
set_option maxRecDepth 100000 in
/-- note, there is none -/
theorem c_Lnote0 (l : Launch) (hfl : l.stackTraces = false) (D : va_G) (cy : Nat → ClassId) (A : Nat → Prop) (ad : Nat → Nat) (C : rC) (N : rN) (T : rT) (rn : Int32) (X : va_W) (hN : N.2 < 100000) (x : Int32) (hn : x < 0 ∨ nI N.2 ≤ x ∨ 64 ≤ x) : Met l yL_note wtL_note ({ frames := 14, cells := 1, slots := 8, locals := 400 }) (va_Pc [.ref (ad 0), .int x] (KP D cy A (rgW ad cy C N T rn X))) (va_Qi (fun (r : Int32) (_ : Unit) => r = -1000000101) (fun _ => KB D cy A (rgW ad cy C N T rn X)) A) 1 8 A := by
  refine k_openH (own := RL) (maxL := 3) (ret := (some .int)) (by decide) rfl rfl (Nat.le_of_ble_eq_true rfl) (fun p e s m args below meth c S hr hlk htab I ls hl => ?_)
  obtain ⟨hx, hb, hml, hown, hts⟩ := id S
  have hl : lv_has ls 3 [(0, .ref (ad 0)), (1, .int x)] := hl
  refine lv_aload_n hx hb dL_note_0 rfl (lv_at hl 0 rfl) ?_
  refine lv_iload_n hx hb dL_note_1 rfl (lv_at hl 1 rfl) ?_
  refine k_VX (Qc := fun _ _ _ _ => True) (q0 := 0) (As := [.int x]) (rest := []) (w1 := rgW ad cy C N T rn X) S I (c_rnote0 l hfl D cy A ad C N T rn X hN x hn) (cwV 1 hts (gx_V gL_note_X3_note xw_good) rfl rfl rfl (by decide +kernel) ⟨(Nat.le_of_ble_eq_true rfl), (Nat.le_of_ble_eq_true rfl)⟩) rfl rfl rfl rfl hl.1 rfl (Nat.le_of_ble_eq_true rfl) dL_note_2 ⟨(Nat.le_of_ble_eq_true rfl), (Nat.le_of_ble_eq_true rfl)⟩ (fun H locs ce q9 I g1 g2 g3 => ?_)
  refine k_catch (E := "java/lang/ArrayIndexOutOfBoundsException") (tgt := 6) [] ⟨0, 5, 6, 13⟩ [] S I htab rfl (by decide +kernel) (by decide) (by decide) (List.mem_append_left _ (by decide +kernel)) (by decide +kernel) g1 g2 g3 rfl ?_
  refine lv_astore_n (lv' := [(2, .ref q9), (0, .ref (ad 0)), (1, .int x)]) hx hb dL_note_6 rfl hl (by decide) rfl (fun ls hl => ?_)
  refine lv_ldc (v := -1000000101) hx hb hown (hts (.constant RL 15 (-1000000101)) (List.mem_append_left _ (by decide +kernel))) dL_note_7 ?_
  exact k_iret S hr hlk I rfl rfl dL_note_9
set_option maxHeartbeats 4000000 in
set_option maxRecDepth 100000 in
/-- run, whatever comes out of it -/
theorem c_Lrun (l : Launch) (hfl : l.stackTraces = false) (D : va_G) (cy : Nat → ClassId) (A : Nat → Prop) (ad : Nat → Nat) (C : rC) (N : rN) (T : rT) (rn : Int32) (X : va_W) (k : Nat) (hk : k < 6) (b v : Int32) : Met l yL_run wtL_run ({ frames := 82, cells := 1, slots := 8, locals := 3100 }) (va_Pc [.ref (ad 0), .int (nI k), .int b, .int v] (KP D cy A (rgW ad cy C N T rn X))) (va_Ql (fun (_ : Int64) (_ : Unit) => True) (fun _ => KB D cy A (rgW ad cy C ((dlF C k (gdF C k) b v ((N.1, 0), dpT T)).1.1) ((dlF C k (gdF C k) b v ((N.1, 0), dpT T)).1.2) (rn + 1) X)) A) 1 8 A := by
  refine k_openH (own := RL) (maxL := 5) (ret := (some .long)) (by decide) rfl rfl (Nat.le_of_ble_eq_true rfl) (fun p e s m args below meth c S hr hlk htab I ls hl => ?_)
  obtain ⟨hx, hb, hml, hown, hts⟩ := id S
  have hl : lv_has ls 5 [(0, .ref (ad 0)), (1, .int (nI k)), (2, .int b), (3, .int v)] := hl
  refine lv_aload_n hx hb dL_run_0 rfl (lv_at hl 0 rfl) ?_
  refine lv_iload_n hx hb dL_run_1 rfl (lv_at hl 1 rfl) ?_
  refine lv_iload_n hx hb dL_run_2 rfl (lv_at hl 2 rfl) ?_
  refine lv_iload_n hx hb dL_run_3 rfl (lv_at hl 3 rfl) ?_
  obtain ⟨-, -, -, hkd⟩ := run_n C hk b v N T
  rcases hkd with hkd | hkd | hkd | hkd | hkd | hkd
  · refine k_Vl (q0 := 0) (As := [.int (nI k), .int b, .int v]) (rest := []) (w1 := rgW ad cy C ((dlF C k (gdF C k) b v ((N.1, 0), dpT T)).1.1) ((dlF C k (gdF C k) b v ((N.1, 0), dpT T)).1.2) (rn + 1) X) (G := (dlF C k (gdF C k) b v ((N.1, 0), dpT T)).2) S I (c_rrun1 l D cy A ad C N T rn X k hk b v hkd) (cwV 3 hts (gx_L gL_run_X3_run) rfl rfl rfl (by decide +kernel) ⟨(Nat.le_of_ble_eq_true rfl), (Nat.le_of_ble_eq_true rfl)⟩) rfl rfl rfl rfl hl.1 rfl (Nat.le_of_ble_eq_true rfl) dL_run_4 ⟨Nat.zero_le _, Nat.zero_le _⟩ (fun H locs I => ?_)
    refine W.widen (k := 1) (n := 8) (Nat.le_of_ble_eq_true rfl) (Nat.le_of_ble_eq_true rfl) ?_
    exact k_lretT S hr hlk I rfl dL_run_7
  · refine k_VX (Qc := fun _ _ _ _ => True) (q0 := 0) (As := [.int (nI k), .int b, .int v]) (rest := []) (w1 := rgW ad cy C ((dlF C k (gdF C k) b v ((N.1, 0), dpT T)).1.1) ((dlF C k (gdF C k) b v ((N.1, 0), dpT T)).1.2) (rn + 1) X) S I (c_rrunX1 l hfl D cy A ad C N T rn X k hk b v hkd) (cwV 3 hts (gx_V gL_run_X3_run xw_good) rfl rfl rfl (by decide +kernel) ⟨(Nat.le_of_ble_eq_true rfl), (Nat.le_of_ble_eq_true rfl)⟩) rfl rfl rfl rfl hl.1 rfl (Nat.le_of_ble_eq_true rfl) dL_run_4 ⟨(Nat.le_of_ble_eq_true rfl), (Nat.le_of_ble_eq_true rfl)⟩ (fun H locs ce q9 I g1 g2 g3 => ?_)
    refine k_catch (E := "java/lang/IllegalStateException") (tgt := 14) [⟨0, 7, 8, 20⟩] ⟨0, 7, 14, 24⟩ [⟨0, 7, 20, 28⟩, ⟨0, 7, 26, 32⟩, ⟨0, 7, 32, 13⟩] S I htab rfl (by decide +kernel) (by decide) (by decide) (List.mem_append_left _ (by decide +kernel)) (by decide +kernel) g1 g2 g3 rfl ?_
    refine lv_astore (lv' := [(4, .ref q9), (0, .ref (ad 0)), (1, .int (nI k)), (2, .int b), (3, .int v)]) hx hb dL_run_14 hl (by decide) rfl (fun ls hl => ?_)
    refine lv_ldc2 (v := -9000000000102) hx hb hown (hts (.constantLong RL 26 (-9000000000102)) (List.mem_append_left _ (by decide +kernel))) dL_run_16 ?_
    exact k_lretT S hr hlk I rfl dL_run_19
  · refine k_VX (Qc := fun _ _ _ _ => True) (q0 := 0) (As := [.int (nI k), .int b, .int v]) (rest := []) (w1 := rgW ad cy C ((dlF C k (gdF C k) b v ((N.1, 0), dpT T)).1.1) ((dlF C k (gdF C k) b v ((N.1, 0), dpT T)).1.2) (rn + 1) X) S I (c_rrunX2 l hfl D cy A ad C N T rn X k hk b v hkd) (cwV 3 hts (gx_V gL_run_X3_run xw_good) rfl rfl rfl (by decide +kernel) ⟨(Nat.le_of_ble_eq_true rfl), (Nat.le_of_ble_eq_true rfl)⟩) rfl rfl rfl rfl hl.1 rfl (Nat.le_of_ble_eq_true rfl) dL_run_4 ⟨(Nat.le_of_ble_eq_true rfl), (Nat.le_of_ble_eq_true rfl)⟩ (fun H locs ce q9 I g1 g2 g3 => ?_)
    refine k_catch (E := "java/lang/UnsupportedOperationException") (tgt := 20) [⟨0, 7, 8, 20⟩, ⟨0, 7, 14, 24⟩] ⟨0, 7, 20, 28⟩ [⟨0, 7, 26, 32⟩, ⟨0, 7, 32, 13⟩] S I htab rfl (by decide +kernel) (by decide) (by decide) (List.mem_append_left _ (by decide +kernel)) (by decide +kernel) g1 g2 g3 rfl ?_
    refine lv_astore (lv' := [(4, .ref q9), (0, .ref (ad 0)), (1, .int (nI k)), (2, .int b), (3, .int v)]) hx hb dL_run_20 hl (by decide) rfl (fun ls hl => ?_)
    refine lv_ldc2 (v := -9000000000103) hx hb hown (hts (.constantLong RL 30 (-9000000000103)) (List.mem_append_left _ (by decide +kernel))) dL_run_22 ?_
    exact k_lretT S hr hlk I rfl dL_run_25
  · refine k_VX (Qc := fun _ _ _ _ => True) (q0 := 0) (As := [.int (nI k), .int b, .int v]) (rest := []) (w1 := rgW ad cy C ((dlF C k (gdF C k) b v ((N.1, 0), dpT T)).1.1) ((dlF C k (gdF C k) b v ((N.1, 0), dpT T)).1.2) (rn + 1) X) S I (c_rrunX3 l hfl D cy A ad C N T rn X k hk b v hkd) (cwV 3 hts (gx_V gL_run_X3_run xw_good) rfl rfl rfl (by decide +kernel) ⟨(Nat.le_of_ble_eq_true rfl), (Nat.le_of_ble_eq_true rfl)⟩) rfl rfl rfl rfl hl.1 rfl (Nat.le_of_ble_eq_true rfl) dL_run_4 ⟨(Nat.le_of_ble_eq_true rfl), (Nat.le_of_ble_eq_true rfl)⟩ (fun H locs ce q9 I g1 g2 g3 => ?_)
    refine k_catch (E := "java/lang/ArithmeticException") (tgt := 8) [] ⟨0, 7, 8, 20⟩ [⟨0, 7, 14, 24⟩, ⟨0, 7, 20, 28⟩, ⟨0, 7, 26, 32⟩, ⟨0, 7, 32, 13⟩] S I htab rfl (by decide +kernel) (by decide) (by decide) (List.mem_append_left _ (by decide +kernel)) (by decide +kernel) g1 g2 g3 rfl ?_
    refine lv_astore (lv' := [(4, .ref q9), (0, .ref (ad 0)), (1, .int (nI k)), (2, .int b), (3, .int v)]) hx hb dL_run_8 hl (by decide) rfl (fun ls hl => ?_)
    refine lv_ldc2 (v := -9000000000101) hx hb hown (hts (.constantLong RL 22 (-9000000000101)) (List.mem_append_left _ (by decide +kernel))) dL_run_10 ?_
    exact k_lretT S hr hlk I rfl dL_run_13
  · refine k_VX (Qc := fun _ _ _ _ => True) (q0 := 0) (As := [.int (nI k), .int b, .int v]) (rest := []) (w1 := rgW ad cy C ((dlF C k (gdF C k) b v ((N.1, 0), dpT T)).1.1) ((dlF C k (gdF C k) b v ((N.1, 0), dpT T)).1.2) (rn + 1) X) S I (c_rrunX4 l hfl D cy A ad C N T rn X k hk b v hkd) (cwV 3 hts (gx_V gL_run_X3_run xw_good) rfl rfl rfl (by decide +kernel) ⟨(Nat.le_of_ble_eq_true rfl), (Nat.le_of_ble_eq_true rfl)⟩) rfl rfl rfl rfl hl.1 rfl (Nat.le_of_ble_eq_true rfl) dL_run_4 ⟨(Nat.le_of_ble_eq_true rfl), (Nat.le_of_ble_eq_true rfl)⟩ (fun H locs ce q9 I g1 g2 g3 => ?_)
    refine k_catch (E := Bundle.nN) (tgt := 26) [⟨0, 7, 8, 20⟩, ⟨0, 7, 14, 24⟩, ⟨0, 7, 20, 28⟩] ⟨0, 7, 26, 32⟩ [⟨0, 7, 32, 13⟩] S I htab rfl (by decide +kernel) (by decide) (by decide) (List.mem_append_left _ (by decide +kernel)) (by decide +kernel) g1 g2 g3 rfl ?_
    refine lv_astore (lv' := [(4, .ref q9), (0, .ref (ad 0)), (1, .int (nI k)), (2, .int b), (3, .int v)]) hx hb dL_run_26 hl (by decide) rfl (fun ls hl => ?_)
    refine lv_ldc2 (v := -9000000000104) hx hb hown (hts (.constantLong RL 34 (-9000000000104)) (List.mem_append_left _ (by decide +kernel))) dL_run_28 ?_
    exact k_lretT S hr hlk I rfl dL_run_31
  · refine k_VX (Qc := fun _ _ _ _ => True) (q0 := 0) (As := [.int (nI k), .int b, .int v]) (rest := []) (w1 := rgW ad cy C ((dlF C k (gdF C k) b v ((N.1, 0), dpT T)).1.1) ((dlF C k (gdF C k) b v ((N.1, 0), dpT T)).1.2) (rn + 1) X) S I (c_rrunX5 l hfl D cy A ad C N T rn X k hk b v hkd) (cwV 3 hts (gx_V gL_run_X3_run xw_good) rfl rfl rfl (by decide +kernel) ⟨(Nat.le_of_ble_eq_true rfl), (Nat.le_of_ble_eq_true rfl)⟩) rfl rfl rfl rfl hl.1 rfl (Nat.le_of_ble_eq_true rfl) dL_run_4 ⟨(Nat.le_of_ble_eq_true rfl), (Nat.le_of_ble_eq_true rfl)⟩ (fun H locs ce q9 I g1 g2 g3 => ?_)
    refine k_catch (E := "java/lang/ArrayIndexOutOfBoundsException") (tgt := 32) [⟨0, 7, 8, 20⟩, ⟨0, 7, 14, 24⟩, ⟨0, 7, 20, 28⟩, ⟨0, 7, 26, 32⟩] ⟨0, 7, 32, 13⟩ [] S I htab rfl (by decide +kernel) (by decide) (by decide) (List.mem_append_left _ (by decide +kernel)) (by decide +kernel) g1 g2 g3 rfl ?_
    refine lv_astore (lv' := [(4, .ref q9), (0, .ref (ad 0)), (1, .int (nI k)), (2, .int b), (3, .int v)]) hx hb dL_run_32 hl (by decide) rfl (fun ls hl => ?_)
    refine lv_ldc2 (v := -9000000000105) hx hb hown (hts (.constantLong RL 36 (-9000000000105)) (List.mem_append_left _ (by decide +kernel))) dL_run_34 ?_
    exact k_lretT S hr hlk I rfl dL_run_37
