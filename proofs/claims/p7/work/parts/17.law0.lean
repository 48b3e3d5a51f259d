/-! THE LAW: the claim out of its walk (the skeleton), and what holds at its entry -/
/-! THE CLAIM OUT OF ONE WALK OF THE LAW'S BODY. Your part is whole_start (and what it stands on); all else here is the same for every law, but numbers. -/
def R_law : String := "UnwindRigLaw"
def lw_P (b : Addr) (xs : List Int32) (args : Array Value) (s : State) : Prop := args = #[.ref b] ∧ s.IntsAt b xs ∧ xs.length ≤ 260 ∧ (Jvm.Cond.and given_1 narrow_1).before args s = true
def lw_Q (_ : Array Value) (s : State) (o : Outcome) (t : State) : Prop := o = .returned (some (.int 1)) ∧ Framed s o t [] 668902 7089309
def lw_Z (below : List Frame) (a : Array Value) (s : State) : State → Prop := fun t => ∃ o, t.status = .running ∧ Ended t below o ∧ lw_Q a s o t
/-- the law's own end, with 1 on the stack, nothing written that was there before, its room as the claim has it -/
theorem lw_ret {p : Program} {l : Launch} {e : Env} {s : State} {m : MethodId} {below : List Frame} {meth : Method} {c : Code} {b : Nat} (hx : p.tables.exec = Jvm.exec) (hb : c.code = code) (hr : meth.sig.returnType = ret) (hlocks : meth.locks = false) {pc : Nat} {H : Heap} {ls : Array Slot} (hdg : decode code pc = .ok (.ireturn, 1)) : W p l e room_1 s m #[Value.ref b] below meth c H [] 668902 7089309 (lw_Z below #[Value.ref b] s) (F0 m pc ls [.int 1]) := by
  intro T hT X
  obtain ⟨fs, hret, hrun, hended, hW, hframe⟩ := X.leave (v := some (.int 1)) (hlocks := hlocks) (fun h => by rw [hr] at h; cases h)
  have hmeth' : T.vm.method? m = some meth := X.method'
  refine ⟨T.setFrames fs, ?_, .returned (some (.int 1)), hrun, hended, rfl, ⟨_, rfl⟩, hW, hframe⟩
  jvm_step X.here [X.here.top, hx, hb, hdg, hmeth', hr, ret, narrow_b1]
  (try refine ⟨rfl, ?_⟩); (try refine ⟨rfl, ?_⟩)
  first | (intro acts; rw [hret _ acts rfl rfl rfl]) | rw [hret _ _ rfl rfl rfl]
  exact Steps.refl _
/-- what holds at the law's entry: the machine, the code, the tables' words (any of lw_tbl by 'hts w (by decide +kernel)'), the script of L ints xs at the cell b, what the Statement gives of the start (any of its parts by flat_of_before) -/
def lw_At (p : Program) (s : State) (m : MethodId) (meth : Method) (c : Code) (b L : Nat) (xs : Nat → Int32) : Prop :=
  p.tables.exec = Jvm.exec ∧ c.code = code ∧ meth.sig.returnType = ret ∧ c.maxLocals = 10 ∧ s.vm.findClass R_law = some m.cls ∧ (∀ w ∈ lw_tbl, w.before #[Value.ref b] s = true) ∧ va_X b L xs s s.heap ∧ b < s.heap.size ∧ meth.locks = false ∧ (Jvm.Cond.and given_1 narrow_1).before #[Value.ref b] s = true
/-- the law's words: its own list, and those of the throws -/
def wtL_law : List Cond := wsL_law ++ xwA
theorem xw_in : ∀ w ∈ xwA, w ∈ lw_tbl := by decide +kernel
theorem nw_in : ∀ w ∈ nwl, w ∈ lw_tbl := by decide +kernel
theorem nw_ot : ∀ w ∈ nwl, w.onTables = true := by decide +kernel
theorem wtL_law_in : ∀ w ∈ wtL_law, w ∈ lw_tbl := fun w h => (List.mem_append.mp h).elim (fun h => wsL_law_in w h) (fun h => xw_in w h)
theorem il_X0 : ∀ w ∈ u_ws RX0 TX0 4, w ∈ wtL_law := fun w h => List.mem_append_left _ (inlX0 w h)
theorem il_X1 : ∀ w ∈ u_ws RX1 TX1 2, w ∈ wtL_law := fun w h => List.mem_append_left _ (inlX1 w h)
theorem il_X2 : ∀ w ∈ u_ws RX2 TX2 3, w ∈ wtL_law := fun w h => List.mem_append_left _ (inlX2 w h)
theorem il_X3 : ∀ w ∈ u_ws RX3 TX3 4, w ∈ wtL_law := fun w h => List.mem_append_left _ (inlX3 w h)
theorem la_i (s : State) {args : Array Value} {ty : FieldType} (h : (Cond.arrayClass ty).before args s = true) (h1 : ty = .int ∨ ty = .long) : ∃ cA : ClassId, ArrOfT s cA ty ∧ va_RA s cA ty := by
  obtain ⟨cA, kA, comp, f1, f2, f3⟩ := Cond.arrayClass_spec h
  refine ⟨cA, fun N z => ⟨(fun k h => by cases h), kA, f2, comp, f3⟩, ?_⟩
  rcases h1 with rfl | rfl
  · exact f1
  · exact f1
theorem la_q (s : State) {args : Array Value} {C : String} (h : (Cond.arrayOver (.object C)).before args s = true) : ∃ cA : ClassId, ArrOfT s cA (.object C) ∧ va_RA s cA (.object C) := by
  obtain ⟨comp, cA, kA, f4, -, f2, f3, f1⟩ := Cond.arrayOver_spec h
  exact ⟨cA, fun N z => ⟨(fun k h => by cases h), kA, f2, comp, f3⟩, kA, comp, f2, f3, f4, f1⟩
set_option maxHeartbeats 4000000 in
set_option maxRecDepth 100000 in
/-- what holds at the law's entry, in the words of part 05 -/
theorem law_env {p : Program} {s : State} {m : MethodId} {meth : Method} {c : Code} {b L : Nat} {xs : Nat → Int32} (C0 : lw_At p s m meth c b L xs) : ∃ (D : va_G) (cy : Nat → ClassId), KI D cy (fun q => s.heap.size ≤ q) [] s s.heap [] := by
  obtain ⟨hx, hb, hr, hml, hown, htb, hX, hbl, hlocks, hgv⟩ := C0
  have hts : ∀ w ∈ wtL_law, w.before #[Value.ref b] s = true := fun w h => htb w (wtL_law_in w h)
  have hs := flat_of_before _ hgv
  have hA : ∀ q : Nat, q < s.heap.size → ¬ (fun q : Nat => s.heap.size ≤ q) q := fun q h => Nat.not_le.mpr h
  obtain ⟨c0, i0, n0⟩ := u_known (C := RX0) (T := TX0) (N := 4) (n := 4) hts il_X0 (hts (.instantiable RX0 4) (List.mem_append_left _ (by decide +kernel)))
  obtain ⟨c1, i1, n1⟩ := u_known (C := RX1) (T := TX1) (N := 2) (n := 2) hts il_X1 (hts (.instantiable RX1 2) (List.mem_append_left _ (by decide +kernel)))
  obtain ⟨c2, i2, n2⟩ := u_known (C := RX2) (T := TX2) (N := 3) (n := 3) hts il_X2 (hts (.instantiable RX2 3) (List.mem_append_left _ (by decide +kernel)))
  obtain ⟨c3, i3, n3⟩ := u_known (C := RX3) (T := TX3) (N := 4) (n := 4) hts il_X3 (hts (.instantiable RX3 4) (List.mem_append_left _ (by decide +kernel)))
  have hao : (Cond.arrayOver (.object RX0)).before #[Value.ref b] s = true := htb _ (by decide +kernel)
  obtain ⟨cI, hI⟩ := la_i s (hts (.arrayClass .int) (List.mem_append_left _ (by decide +kernel))) (Or.inl rfl)
  obtain ⟨cQ, hQ⟩ := la_q s hao
  refine ⟨(fun k => match k with | 0 => c0 | 1 => c1 | 2 => c2 | _ => c3, fun k => match k with | 0 => i0 | 1 => i1 | 2 => i2 | _ => i3), fun k => match k with | 0 => cQ | _ => cI, ⟨?_, ?_⟩, ⟨?_, ?_, ?_, ?_, ?_, ?_⟩, fun q h => h, ?_, ?_, va_S.rf⟩
  · intro k q hq
    match k, hq with
    | 0, hq => cases hq; exact n0
    | 1, hq => cases hq; exact n1
    | 2, hq => cases hq; exact n2
    | 3, hq => cases hq; exact n3
    | k + 4, hq => simp [kCl] at hq
  · intro k q hq
    match k, hq with
    | 0, hq => cases hq; exact hQ
    | 1, hq => cases hq; exact hI
    | 2, hq => cases hq; exact hI
    | 3, hq => cases hq; exact hI
    | 4, hq => cases hq; exact hI
    | k + 5, hq => simp [kTy] at hq
  · exact ⟨va_Nw.of rfl (htb _ (by decide +kernel)), va_Nw.of rfl (htb _ (by decide +kernel)), va_Nw.of rfl (htb _ (by decide +kernel)), va_Nw.of rfl (htb _ (by decide +kernel)), va_Nw.of rfl (htb _ (by decide +kernel)), va_Nw.of rfl (htb _ (by decide +kernel))⟩
  · exact ⟨vx_Zqof (htb _ (by decide +kernel)) (htb _ (by decide +kernel)) (hs _ (by decide +kernel)) hA, vx_Zqof (htb _ (by decide +kernel)) (htb _ (by decide +kernel)) (hs _ (by decide +kernel)) hA⟩
  · have go : ∀ (k : Nat) (tx : String), (Cond.stringRef RX3 k tx).before #[Value.ref b] s = true → ∃ a, vk_R RX3 k tx a s := by
      intro k tx h
      obtain ⟨-, -, -, a, -, -, -, -, -, hev⟩ := Cond.stringRef_spec n3.2.1 h
      exact ⟨a, vk_R.of h hev⟩
    exact ⟨go _ _ (htb _ (by decide +kernel)), go _ _ (htb _ (by decide +kernel)), go _ _ (htb _ (by decide +kernel)), go _ _ (htb _ (by decide +kernel)), go _ _ (htb _ (by decide +kernel)), go _ _ (htb _ (by decide +kernel)), go _ _ (htb _ (by decide +kernel)), go _ _ (htb _ (by decide +kernel))⟩
  · exact fun w hw => va_Nw.of (nw_ot w hw) (htb w (nw_in w hw))
  · intro q hq
    refine va_Nc.of (args := #[Value.ref b]) (hs _ ?_)
    revert q
    decide +kernel
  · exact ⟨va_Nw.of rfl (htb _ (by decide +kernel)), va_Nw.of rfl (htb _ (by decide +kernel)), va_Nw.of rfl (htb _ (by decide +kernel)), va_AO.of hao⟩
  · exact fun k q h => by simp at h
  · exact ⟨fun i j p q h => by simp at h, fun k q h => by simp at h⟩
