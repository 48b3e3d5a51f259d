/-! THE LAW: its loops and its walk, laid by wip/p7/law7.py -/
/-- an element of the law's script -/
theorem k_scr {p : Program} {l : Launch} {e : Env} {R : Room} {s : State} {m : MethodId} {args : Array Value} {below : List Frame} {meth : Method} {c : Code} {H : Heap} {locs : List Loc} {cells slots : Nat} {Q : State → Prop} {cc : ByteArray} {nL : Nat} {Ts : List Cond} {own : String} {D : va_G} {cy : Nat → ClassId} {ww : va_W} {pc : Nat} {ls : Array Slot} {rest : List Value}
    {b L j : Nat} {xs : Nat → Int32} {i x : Int32} (S : CallFix p m c cc nL s args Ts own) (I : KI D cy (fun q => s.heap.size ≤ q) ww s H locs) (hX : va_X b L xs s s.heap) (hbl : b < s.heap.size) (hL : L < 2 ^ 31) (hi : i = nI j) (hj : j < L) (hx : xs j = x) (d : decode cc pc = .ok (.iaload, 1))
    (kk : W p l e R s m args below meth c H locs cells slots Q (F0 m (pc + 1) ls (.int x :: rest))) : W p l e R s m args below meth c H locs cells slots Q (F0 m pc ls (.int i :: .ref b :: rest)) := by
  subst hi; subst hx
  refine va_sld S.1 S.2.1 hX hbl (Nat.not_le.mpr hbl) I.2.2.2.2.2 (vp_in_nI hj hL) d ?_
  rw [nI_clamp (by omega)]
  exact kk
theorem dv4 : ∀ q : Nat, q < 6 → nI (4 * q) / 4 = nI q := by decide +kernel
theorem nI_m1 (d : Nat) : nI (d + 1) + Int32.ofInt (-1) = nI d := (show nI (d + 1) + Int32.ofInt (-1) = nI (d + 1) - 1 from (Int32.sub_eq_add_neg (nI (d + 1)) 1).symm).trans (nI_pred d)
theorem cnF_0 (N : rN) (T : rT) (rn : Int32) : cnF N T rn 0 = nI N.2 := if_pos rfl
theorem cnF_1 (N : rN) (T : rT) (rn : Int32) : cnF N T rn 1 = rn := (if_neg (by decide)).trans (if_pos rfl)
theorem n600 : ∀ c : Nat, c < 6 → ¬ 600 + nI c < 0 ∧ 6 ≤ 600 + nI c ∧ ¬ 600 + nI c < 600 ∧ ¬ 606 ≤ 600 + nI c := by decide +kernel
set_option maxHeartbeats 40000000 in
set_option maxRecDepth 100000 in
/-- the settings, at most six -/
theorem law_sets {p : Program} {e : Env} {s : State} {m : MethodId} {below : List Frame} {meth : Method} {c : Code} (l : Launch) (hfl : l.stackTraces = false) {b L : Nat} {xs : Nat → Int32} (hL : L ≤ 260) (S : CallFix p m c cL_law 10 s #[Value.ref b] wtL_law RL) (hX : va_X b L xs s s.heap) (hbl : b < s.heap.size) (D : va_G) (cy : Nat → ClassId) (ad : Nat → Nat) {Q : State → Prop}
    (hk : ∀ (C : rC) (H : Heap) (locs : List Loc), KI D cy (fun q => s.heap.size ≤ q) (rgW ad cy C rN0 rT0 0 []) s H locs → ∀ ls : Array Slot, lv_has ls 10 [(1, .ref (ad 0)), (0, .ref b)] → W p l e room_1 s m #[Value.ref b] below meth c H locs 20 200 Q (F0 m 66 ls [])) :
    ∀ (n q : Nat), q ≤ 6 → 6 < q + n → ∀ (C : rC) (H : Heap) (locs : List Loc), KI D cy (fun q => s.heap.size ≤ q) (rgW ad cy C rN0 rT0 0 []) s H locs → ∀ ls : Array Slot, lv_has ls 10 [(2, .int (nI (4 * q))), (1, .ref (ad 0)), (0, .ref b)] → W p l e room_1 s m #[Value.ref b] below meth c H locs 20 200 Q (F0 m 10 ls []) := by
  obtain ⟨hx, hb, hml, hown, hts⟩ := id S
  intro n
  induction n with
  | zero => intro q h1 h2; exact absurd h2 (by omega)
  | succ n ih =>
    intro q hq0 hq1 C H locs I ls hl
    refine lv_iload_n hx hb dL_law_10 rfl (lv_at hl 0 rfl) ?_
    refine lv_iconst (v := 4) hx hb dL_law_11 (by decide) ?_
    refine lv_iadd hx hb dL_law_12 ?_
    refine W.eq (congrArg (fun z => F0 m 13 ls (.int z :: [])) (nI_add (4 * q) 4)) ?_
    refine lv_aload_n hx hb dL_law_13 rfl (lv_at hl 2 rfl) ?_
    refine va_slen hx hb hX hbl (Nat.not_le.mpr hbl) I.2.2.2.2.2 dL_law_14 ?_
    refine lv_icmp_gt (tgt := 66) hx hb dL_law_15 (by decide) (fun c_15 => ?_) (fun c_15 => ?_)
    · exact hk C _ _ I ls (lv_sub hl [1, 2] rfl)
    · have h4 : 4 * q + 4 ≤ L := Nat.not_lt.mp (fun h => c_15 (nI_lt h (by omega)))
      refine lv_iload_n hx hb dL_law_18 rfl (lv_at hl 0 rfl) ?_
      refine lv_bipush (v := 24) hx hb dL_law_19 (by decide) ?_
      refine lv_icmp_ge (tgt := 66) hx hb dL_law_21 (by decide) (fun c_21 => ?_) (fun c_21 => ?_)
      · exact hk C _ _ I ls (lv_sub hl [1, 2] rfl)
      · have hq : q < 6 := Nat.lt_of_not_le (fun h => c_21 (show nI 24 ≤ nI (4 * q) from nI_le (by omega) (by omega)))
        refine lv_aload_n hx hb dL_law_24 rfl (lv_at hl 1 rfl) ?_
        refine lv_iload_n hx hb dL_law_25 rfl (lv_at hl 0 rfl) ?_
        refine lv_iconst (v := 4) hx hb dL_law_26 (by decide) ?_
        refine lv_idiv hx hb dL_law_27 (by decide) ?_
        refine W.eq (congrArg (fun z => F0 m 28 ls (.int z :: [.ref (ad 0)])) (dv4 q hq)) ?_
        refine lv_aload_n hx hb dL_law_28 rfl (lv_at hl 2 rfl) ?_
        refine lv_iload_n hx hb dL_law_29 rfl (lv_at hl 0 rfl) ?_
        refine k_scr (j := 4 * q) (x := xs (4 * q)) S I hX hbl (by omega) rfl (by omega) rfl dL_law_30 ?_
        refine lv_aload_n hx hb dL_law_31 rfl (lv_at hl 2 rfl) ?_
        refine lv_iload_n hx hb dL_law_32 rfl (lv_at hl 0 rfl) ?_
        refine lv_iconst (v := 1) hx hb dL_law_33 (by decide) ?_
        refine lv_iadd hx hb dL_law_34 ?_
        refine k_scr (j := 4 * q + 1) (x := xs (4 * q + 1)) S I hX hbl (by omega) (nI_add (4 * q) 1) (by omega) rfl dL_law_35 ?_
        refine lv_bipush (v := 7) hx hb dL_law_36 (by decide) ?_
        refine lv_iand hx hb dL_law_38 ?_
        refine lv_iconst (v := 1) hx hb dL_law_39 (by decide) ?_
        refine lv_isub hx hb dL_law_40 ?_
        refine lv_aload_n hx hb dL_law_41 rfl (lv_at hl 2 rfl) ?_
        refine lv_iload_n hx hb dL_law_42 rfl (lv_at hl 0 rfl) ?_
        refine lv_iconst (v := 2) hx hb dL_law_43 (by decide) ?_
        refine lv_iadd hx hb dL_law_44 ?_
        refine k_scr (j := 4 * q + 2) (x := xs (4 * q + 2)) S I hX hbl (by omega) (nI_add (4 * q) 2) (by omega) rfl dL_law_45 ?_
        refine lv_bipush (v := 7) hx hb dL_law_46 (by decide) ?_
        refine lv_iand hx hb dL_law_48 ?_
        refine lv_iconst (v := 1) hx hb dL_law_49 (by decide) ?_
        refine lv_isub hx hb dL_law_50 ?_
        refine lv_aload_n hx hb dL_law_51 rfl (lv_at hl 2 rfl) ?_
        refine lv_iload_n hx hb dL_law_52 rfl (lv_at hl 0 rfl) ?_
        refine lv_iconst (v := 3) hx hb dL_law_53 (by decide) ?_
        refine lv_iadd hx hb dL_law_54 ?_
        refine k_scr (j := 4 * q + 3) (x := xs (4 * q + 3)) S I hX hbl (by omega) (nI_add (4 * q) 3) (by omega) rfl dL_law_55 ?_
        refine k_SWi (As := [.ref (ad 0), .int (nI q), .int (xs (4 * q)), .int (((xs (4 * q + 1)) &&& 7) - 1), .int (((xs (4 * q + 2)) &&& 7) - 1), .int (xs (4 * q + 3))]) (rest := []) (w1 := rgW ad cy (upd C.1 q (xs (4 * q)), upd C.2.1 q ((xs (4 * q + 1) &&& 7) - 1), upd C.2.2.1 q ((xs (4 * q + 2) &&& 7) - 1), upd C.2.2.2 q (xs (4 * q + 3))) rN0 rT0 0 []) (G := (C.2.2.2 q)) S I (c_Lset l hfl D cy _ ad C rN0 rT0 0 [] q hq (xs (4 * q)) ((xs (4 * q + 1) &&& 7) - 1) ((xs (4 * q + 2) &&& 7) - 1) (xs (4 * q + 3))) (vx_cwSW 6 hts (gx_L gL_law_L_set) rfl rfl rfl (by decide +kernel) ⟨(Nat.le_of_ble_eq_true rfl), (Nat.le_of_ble_eq_true rfl)⟩) rfl hl.1 rfl (Nat.le_of_ble_eq_true rfl) dL_law_56 ⟨(Nat.le_of_ble_eq_true rfl), (Nat.le_of_ble_eq_true rfl)⟩ (fun H locs I => ?_)
        refine lv_pop hx hb dL_law_59 rfl ?_
        refine lv_iinc (v := (nI (4 * (q + 1)))) (lv' := [(2, .int (nI (4 * (q + 1)))), (1, .ref (ad 0)), (0, .ref b)]) hx hb dL_law_60 hl (k := 0) rfl (nI_add (4 * q) 4) (by decide) rfl (fun ls hl => ?_)
        refine lv_goto (tgt := 10) hx hb dL_law_63 (by decide) ?_
        exact ih (q + 1) (by omega) (by omega) _ _ _ I ls (lv_sub hl [0, 1, 2] rfl)
/-- where the scan stands: d levels are open, the highest k, in the law's row op; what the notes from j on still do -/
def scI (k : Nat) (rest : List Int32) (j d : Nat) (f : Int32) (op : Nat → Int32) : Prop := (∀ t : Nat, t < d → op t = nI (k - t)) ∧ ((j = 0 ∧ d = 0 ∧ f = 1) ∨ (f = 0 ∧ ∃ (c j' : Nat), j = j' + 1 ∧ d + c = k + 1 ∧ bkN k (rest.drop j') c (k + 1)))
theorem scI_end {k : Nat} {rest : List Int32} {j d : Nat} {f : Int32} {op : Nat → Int32} (h : scI k rest j d f op) (hj : j = rest.length + 1) : d = 0 := by
  obtain ⟨-, h | ⟨-, c, j', e1, e2, h⟩⟩ := h
  · exact h.2.1
  · have e : j' = rest.length := by omega
    subst e
    rw [List.drop_length] at h
    have h : c = k + 1 := h
    omega
theorem bkN_top {k c : Nat} {L : List Int32} (h : bkN k L c (k + 1)) (hc : k < c) : L = [] := by
  cases L with
  | nil => rfl
  | cons x L => exact absurd h.1 (by omega)
set_option maxHeartbeats 40000000 in
set_option maxRecDepth 100000 in
/-- THE SCAN of a run's notes -/
theorem law_scan {p : Program} {e : Env} {s : State} {m : MethodId} {below : List Frame} {meth : Method} {c : Code} (l : Launch) (hfl : l.stackTraces = false) {b L : Nat} {xs : Nat → Int32} (hL : L ≤ 260) (S : CallFix p m c cL_law 10 s #[Value.ref b] wtL_law RL) (hX : va_X b L xs s s.heap) (hbl : b < s.heap.size) (D : va_G) (cy : Nat → ClassId) (ad : Nat → Nat) (od : Nat) {Q : State → Prop} {C : rC} {N : rN} {T : rT} {rn : Int32} {i k : Nat} (hk : k < 6) {rest : List Int32} (hN5 : N.2 < 99000) (hlen : N.2 = rest.length + 1) (hat : ∀ (j : Nat) (x : Int32), (nI k :: rest)[j]? = some x → j < 64 → N.1 j = x) (hbk : bkN k rest k (k + 1)) {K1 K2 : Nat} (hK1 : K1 ≤ 668902) (hK2 : K2 ≤ 7089309)
    (hend : ∀ (d : Nat) (op : Nat → Int32) (H : Heap) (locs : List Loc), KI D cy (fun q => s.heap.size ≤ q) (rgW ad cy C N T rn ([(od, .inl (cy 4, 64, .inl op))])) s H locs → (N.2 ≤ 64 → d = 0) → ∀ ls : Array Slot, lv_has ls 10 [(6, .int (nI d)), (5, .int (nI N.2)), (3, .int (nI i)), (2, .ref od), (1, .ref (ad 0)), (0, .ref b)] → W p l e room_1 s m #[Value.ref b] below meth c H locs K1 K2 Q (F0 m 317 ls [])) :
    ∀ (n j : Nat), j ≤ N.2 → j ≤ 64 → 64 < j + n → ∀ (d : Nat) (f : Int32) (op : Nat → Int32), scI k rest j d f op → ∀ (H : Heap) (locs : List Loc), KI D cy (fun q => s.heap.size ≤ q) (rgW ad cy C N T rn ([(od, .inl (cy 4, 64, .inl op))])) s H locs → ∀ ls : Array Slot, lv_has ls 10 [(8, .int (nI j)), (7, .int f), (6, .int (nI d)), (5, .int (nI N.2)), (4, .int (nI k)), (3, .int (nI i)), (2, .ref od), (1, .ref (ad 0)), (0, .ref b)] → W p l e room_1 s m #[Value.ref b] below meth c H locs K1 K2 Q (F0 m 148 ls []) := by
  obtain ⟨hx, hb, hml, hown, hts⟩ := id S
  intro n
  induction n with
  | zero => intro j h1 h2 h3; exact absurd h3 (by omega)
  | succ n ih =>
    intro j hj0 hj1 hj2 d f op hs H locs I ls hl
    refine lv_iload hx hb dL_law_148 (lv_at hl 0 rfl) ?_
    refine lv_iload hx hb dL_law_150 (lv_at hl 3 rfl) ?_
    refine lv_icmp_ge (tgt := 317) hx hb dL_law_152 (by decide) (fun c_152 => ?_) (fun c_152 => ?_)
    · exact hend d op _ _ I (fun _ => scI_end hs (show j = rest.length + 1 from by have := (nI_leI (by omega) (by omega)).mp c_152; omega)) ls (lv_sub hl [2, 3, 5, 6, 7, 8] rfl)
    · have hj : j < N.2 := Nat.lt_of_not_le (fun h => c_152 (nI_le h (by omega)))
      refine lv_iload hx hb dL_law_155 (lv_at hl 0 rfl) ?_
      refine lv_bipush (v := 64) hx hb dL_law_157 (by decide) ?_
      refine lv_icmp_ge (tgt := 317) hx hb dL_law_159 (by decide) (fun c_159 => ?_) (fun c_159 => ?_)
      · exact hend d op _ _ I (fun h => absurd ((nI_leI (a := 64) (b := j) (by decide) (by omega)).mp c_159) (by omega)) ls (lv_sub hl [2, 3, 5, 6, 7, 8] rfl)
      · have hj6 : j < 64 := Nat.lt_of_not_le (fun h => c_159 (show nI 64 ≤ nI j from nI_le h (by omega)))
        refine lv_aload_n hx hb dL_law_162 rfl (lv_at hl 7 rfl) ?_
        refine lv_iload hx hb dL_law_163 (lv_at hl 0 rfl) ?_
        refine k_SWi (As := [.ref (ad 0), .int (nI j)]) (rest := []) (w1 := rgW ad cy C N T rn ([(od, .inl (cy 4, 64, .inl op))])) (G := (N.1 j)) S I (c_Lnote1 l hfl D cy _ ad C N T rn [(od, .inl (cy 4, 64, .inl op))] (by omega) j hj hj6) (vx_cwSW 2 hts (gx_L gL_law_L_note) rfl rfl rfl (by decide +kernel) ⟨(Nat.le_of_ble_eq_true rfl), (Nat.le_of_ble_eq_true rfl)⟩) rfl hl.1 rfl (Nat.le_of_ble_eq_true rfl) dL_law_165 ⟨hK1, hK2⟩ (fun H locs I => ?_)
        refine lv_istore (lv' := [(9, .int (N.1 j)), (8, .int (nI j)), (7, .int f), (6, .int (nI d)), (5, .int (nI N.2)), (4, .int (nI k)), (3, .int (nI i)), (2, .ref od), (1, .ref (ad 0)), (0, .ref b)]) hx hb dL_law_168 hl (by decide) rfl (fun ls hl => ?_)
        have tail : ∀ (d : Nat) (f : Int32) (op : Nat → Int32) (H : Heap) (locs : List Loc), KI D cy (fun q => s.heap.size ≤ q) (rgW ad cy C N T rn ([(od, .inl (cy 4, 64, .inl op))])) s H locs → scI k rest (j + 1) d f op → ∀ ls : Array Slot, lv_has ls 10 [(8, .int (nI j)), (7, .int f), (6, .int (nI d)), (5, .int (nI N.2)), (4, .int (nI k)), (3, .int (nI i)), (2, .ref od), (1, .ref (ad 0)), (0, .ref b)] → W p l e room_1 s m #[Value.ref b] below meth c H locs K1 K2 Q (F0 m 311 ls []) := by
          intro d f op H locs I hs ls hl
          refine lv_iinc (v := (nI (j + 1))) (lv' := [(8, .int (nI (j + 1))), (7, .int f), (6, .int (nI d)), (5, .int (nI N.2)), (4, .int (nI k)), (3, .int (nI i)), (2, .ref od), (1, .ref (ad 0)), (0, .ref b)]) hx hb dL_law_311 hl (k := 0) rfl (nI_add j 1) (by decide) rfl (fun ls hl => ?_)
          refine lv_goto (tgt := 148) hx hb dL_law_314 (by decide) ?_
          exact ih (j + 1) (by omega) (by omega) (by omega) d f op hs _ _ I ls (lv_sub hl [0, 1, 2, 3, 4, 5, 6, 7, 8] rfl)
        obtain ⟨hop, ⟨rfl, rfl, rfl⟩ | ⟨rfl, c, j', ej, ed, hbj⟩⟩ := hs
        · have e9 : N.1 0 = nI k := hat 0 (nI k) rfl (by decide)
          rw [e9] at hl
          refine lv_iload hx hb dL_law_170 (lv_at hl 0 rfl) ?_
          refine lv_if_lt (tgt := 232) hx hb dL_law_172 (by decide) (fun c_172 => ?_) (fun c_172 => ?_)
          · exact absurd c_172 (nI_pos (by omega))
          · refine lv_iload hx hb dL_law_175 (lv_at hl 0 rfl) ?_
            refine lv_bipush (v := 6) hx hb dL_law_177 (by decide) ?_
            refine lv_icmp_ge (tgt := 232) hx hb dL_law_179 (by decide) (fun c_179 => ?_) (fun c_179 => ?_)
            · exact absurd c_179 (show ¬ (6 : Int32) ≤ nI k from nI_ge (b := 6) hk (by decide))
            · refine lv_iload hx hb dL_law_182 (lv_at hl 2 rfl) ?_
              refine lv_if_eq (tgt := 197) hx hb dL_law_184 (by decide) (fun c_184 => ?_) (fun c_184 => ?_)
              · exact absurd c_184 (by decide)
              · refine lv_iload hx hb dL_law_187 (lv_at hl 0 rfl) ?_
                refine lv_iload hx hb dL_law_189 (lv_at hl 5 rfl) ?_
                refine lv_icmp_eq (tgt := 217) hx hb dL_law_191 (by decide) (fun c_191 => ?_) (fun c_191 => ?_)
                · refine lv_aload_n hx hb dL_law_217 rfl (lv_at hl 7 rfl) ?_
                  refine lv_iload hx hb dL_law_218 (lv_at hl 3 rfl) ?_
                  refine lv_iload hx hb dL_law_220 (lv_at hl 0 rfl) ?_
                  refine k_iast (q0 := 13) (t0 := 4) (j := 0) (w1 := rgW ad cy C N T rn ([(od, .inl (cy 4, 64, .inl (upd op 0 (nI k))))])) S I rfl rfl (by decide) (by decide) rfl rfl dL_law_222 (fun H locs I => ?_)
                  refine lv_iinc (v := (nI 1)) (lv' := [(6, .int (nI 1)), (9, .int (nI k)), (8, .int (nI 0)), (7, .int 1), (5, .int (nI N.2)), (4, .int (nI k)), (3, .int (nI i)), (2, .ref od), (1, .ref (ad 0)), (0, .ref b)]) hx hb dL_law_223 hl (k := 3) rfl (nI_add 0 1) (by decide) rfl (fun ls hl => ?_)
                  refine lv_iconst (v := 0) hx hb dL_law_226 (by decide) ?_
                  refine lv_istore (lv' := [(7, .int 0), (6, .int (nI 1)), (9, .int (nI k)), (8, .int (nI 0)), (5, .int (nI N.2)), (4, .int (nI k)), (3, .int (nI i)), (2, .ref od), (1, .ref (ad 0)), (0, .ref b)]) hx hb dL_law_227 hl (by decide) rfl (fun ls hl => ?_)
                  refine lv_goto (tgt := 311) hx hb dL_law_229 (by decide) ?_
                  have hs1 : scI k rest (0 + 1) 1 0 (upd op 0 (nI k)) := ⟨fun t ht => by have e : t = 0 := (by omega); subst e; exact pk_us, Or.inr ⟨rfl, k, 0, rfl, by omega, hbk⟩⟩
                  exact tail 1 0 (upd op 0 (nI k)) _ _ I hs1 ls (lv_sub hl [3, 0, 1, 4, 5, 6, 7, 8, 9] rfl)
                · exact absurd rfl c_191
        · subst ej
          have hj9 : j' < rest.length := by omega
          obtain ⟨x, L9, e9⟩ : ∃ (x : Int32) (L9 : List Int32), rest.drop j' = x :: L9 := ⟨_, _, List.drop_eq_getElem_cons hj9⟩
          have eL : rest.drop (j' + 1) = L9 := by
            have h := congrArg List.tail e9
            rwa [List.tail_drop] at h
          have ex : N.1 (j' + 1) = x := by
            refine hat (j' + 1) x ?_ hj6
            rw [List.getElem?_cons_succ, ← List.head?_drop, e9]
            rfl
          rw [ex] at hl
          rw [e9] at hbj
          obtain ⟨hck, hbj⟩ := hbj
          obtain ⟨d, rfl⟩ : ∃ d0 : Nat, d = d0 + 1 := ⟨d - 1, by omega⟩
          rcases hbj with ⟨c, rfl, rfl, hb9⟩ | ⟨rfl, hb9⟩ | ⟨ho, hb9⟩
          · refine lv_iload hx hb dL_law_170 (lv_at hl 0 rfl) ?_
            refine lv_if_lt (tgt := 232) hx hb dL_law_172 (by decide) (fun c_172 => ?_) (fun c_172 => ?_)
            · exact absurd c_172 (nI_pos (by omega))
            · refine lv_iload hx hb dL_law_175 (lv_at hl 0 rfl) ?_
              refine lv_bipush (v := 6) hx hb dL_law_177 (by decide) ?_
              refine lv_icmp_ge (tgt := 232) hx hb dL_law_179 (by decide) (fun c_179 => ?_) (fun c_179 => ?_)
              · exact absurd c_179 (show ¬ (6 : Int32) ≤ nI c from nI_ge (b := 6) (by omega) (by decide))
              · refine lv_iload hx hb dL_law_182 (lv_at hl 2 rfl) ?_
                refine lv_if_eq (tgt := 197) hx hb dL_law_184 (by decide) (fun c_184 => ?_) (fun c_184 => ?_)
                · refine lv_iload hx hb dL_law_197 (lv_at hl 3 rfl) ?_
                  refine lv_if_eq (tgt := 215) hx hb dL_law_199 (by decide) (fun c_199 => ?_) (fun c_199 => ?_)
                  · exact absurd c_199 (nI_ne0 (by omega) (by omega))
                  · refine lv_iload hx hb dL_law_202 (lv_at hl 0 rfl) ?_
                    refine lv_aload_n hx hb dL_law_204 rfl (lv_at hl 7 rfl) ?_
                    refine lv_iload hx hb dL_law_205 (lv_at hl 3 rfl) ?_
                    refine lv_iconst (v := 1) hx hb dL_law_207 (by decide) ?_
                    refine lv_isub hx hb dL_law_208 ?_
                    refine W.eq (congrArg (fun z => F0 m 209 ls (.int z :: [.ref od, .int (nI c)])) (nI_pred d)) ?_
                    refine k_iald (q0 := 13) (t0 := 4) (j := d) (x := nI (c + 1)) S I rfl rfl (by omega) (by decide) rfl ((hop d (by omega)).trans (congrArg nI (by omega))) dL_law_209 ?_
                    refine lv_iconst (v := 1) hx hb dL_law_210 (by decide) ?_
                    refine lv_isub hx hb dL_law_211 ?_
                    refine W.eq (congrArg (fun z => F0 m 212 ls (.int z :: [.int (nI c)])) (nI_pred c)) ?_
                    refine lv_icmp_eq (tgt := 217) hx hb dL_law_212 (by decide) (fun c_212 => ?_) (fun c_212 => ?_)
                    · refine lv_aload_n hx hb dL_law_217 rfl (lv_at hl 7 rfl) ?_
                      refine lv_iload hx hb dL_law_218 (lv_at hl 3 rfl) ?_
                      refine lv_iload hx hb dL_law_220 (lv_at hl 0 rfl) ?_
                      refine k_iast (q0 := 13) (t0 := 4) (j := d + 1) (w1 := rgW ad cy C N T rn ([(od, .inl (cy 4, 64, .inl (upd op (d + 1) (nI c))))])) S I rfl rfl (by omega) (by decide) rfl rfl dL_law_222 (fun H locs I => ?_)
                      refine lv_iinc (v := (nI (d + 1 + 1))) (lv' := [(6, .int (nI (d + 1 + 1))), (9, .int (nI c)), (8, .int (nI (j' + 1))), (7, .int 0), (5, .int (nI N.2)), (4, .int (nI k)), (3, .int (nI i)), (2, .ref od), (1, .ref (ad 0)), (0, .ref b)]) hx hb dL_law_223 hl (k := 3) rfl (nI_add (d + 1) 1) (by decide) rfl (fun ls hl => ?_)
                      refine lv_iconst (v := 0) hx hb dL_law_226 (by decide) ?_
                      refine lv_istore (lv' := [(7, .int 0), (6, .int (nI (d + 1 + 1))), (9, .int (nI c)), (8, .int (nI (j' + 1))), (5, .int (nI N.2)), (4, .int (nI k)), (3, .int (nI i)), (2, .ref od), (1, .ref (ad 0)), (0, .ref b)]) hx hb dL_law_227 hl (by decide) rfl (fun ls hl => ?_)
                      refine lv_goto (tgt := 311) hx hb dL_law_229 (by decide) ?_
                      have hs1 : scI k rest (j' + 1 + 1) (d + 1 + 1) 0 (upd op (d + 1) (nI c)) := by
                        refine ⟨fun t ht => ?_, Or.inr ⟨rfl, c, j' + 1, rfl, by omega, eL ▸ hb9⟩⟩
                        by_cases ht9 : t = d + 1
                        · subst ht9; exact pk_us.trans (congrArg nI (by omega))
                        · exact (pk_un ht9).trans (hop t (by omega))
                      exact tail (d + 1 + 1) 0 (upd op (d + 1) (nI c)) _ _ I hs1 ls (lv_sub hl [3, 0, 1, 4, 5, 6, 7, 8, 9] rfl)
                    · exact absurd rfl c_212
                · exact absurd rfl c_184
          · obtain ⟨q1, q2, q3, q4⟩ := n600 c (by omega)
            refine lv_iload hx hb dL_law_170 (lv_at hl 0 rfl) ?_
            refine lv_if_lt (tgt := 232) hx hb dL_law_172 (by decide) (fun c_172 => ?_) (fun c_172 => ?_)
            · exact absurd c_172 q1
            · refine lv_iload hx hb dL_law_175 (lv_at hl 0 rfl) ?_
              refine lv_bipush (v := 6) hx hb dL_law_177 (by decide) ?_
              refine lv_icmp_ge (tgt := 232) hx hb dL_law_179 (by decide) (fun c_179 => ?_) (fun c_179 => ?_)
              · refine lv_iload hx hb dL_law_232 (lv_at hl 0 rfl) ?_
                refine lv_sipush (v := 600) hx hb dL_law_234 (by decide) ?_
                refine lv_icmp_lt (tgt := 311) hx hb dL_law_237 (by decide) (fun c_237 => ?_) (fun c_237 => ?_)
                · exact absurd c_237 q3
                · refine lv_iload hx hb dL_law_240 (lv_at hl 0 rfl) ?_
                  refine lv_sipush (v := 606) hx hb dL_law_242 (by decide) ?_
                  refine lv_icmp_ge (tgt := 311) hx hb dL_law_245 (by decide) (fun c_245 => ?_) (fun c_245 => ?_)
                  · exact absurd c_245 q4
                  · refine lv_iload hx hb dL_law_248 (lv_at hl 3 rfl) ?_
                    refine lv_if_le (tgt := 311) hx hb dL_law_250 (by decide) (fun c_250 => ?_) (fun c_250 => ?_)
                    · exact absurd c_250 (nI_nle (by omega) (by omega))
                    · refine lv_iload hx hb dL_law_253 (lv_at hl 0 rfl) ?_
                      refine lv_sipush (v := 600) hx hb dL_law_255 (by decide) ?_
                      refine lv_aload_n hx hb dL_law_258 rfl (lv_at hl 7 rfl) ?_
                      refine lv_iload hx hb dL_law_259 (lv_at hl 3 rfl) ?_
                      refine lv_iconst (v := 1) hx hb dL_law_261 (by decide) ?_
                      refine lv_isub hx hb dL_law_262 ?_
                      refine W.eq (congrArg (fun z => F0 m 263 ls (.int z :: [.ref od, .int 600, .int (600 + nI c)])) (nI_pred d)) ?_
                      refine k_iald (q0 := 13) (t0 := 4) (j := d) (x := nI c) S I rfl rfl (by omega) (by decide) rfl ((hop d (by omega)).trans (congrArg nI (by omega))) dL_law_263 ?_
                      refine lv_iadd hx hb dL_law_264 ?_
                      refine lv_icmp_ne (tgt := 311) hx hb dL_law_265 (by decide) (fun c_265 => ?_) (fun c_265 => ?_)
                      · exact absurd rfl c_265
                      · refine lv_iinc (v := (nI d)) (lv' := [(6, .int (nI d)), (9, .int (600 + nI c)), (8, .int (nI (j' + 1))), (7, .int 0), (5, .int (nI N.2)), (4, .int (nI k)), (3, .int (nI i)), (2, .ref od), (1, .ref (ad 0)), (0, .ref b)]) hx hb dL_law_268 hl (k := 3) rfl (nI_m1 d) (by decide) rfl (fun ls hl => ?_)
                        refine lv_iload hx hb dL_law_271 (lv_at hl 0 rfl) ?_
                        refine lv_if_ne (tgt := 311) hx hb dL_law_273 (by decide) (fun c_273 => ?_) (fun c_273 => ?_)
                        · have hs1 : scI k rest (j' + 1 + 1) d 0 op := ⟨fun t ht => hop t (by omega), Or.inr ⟨rfl, c + 1, j' + 1, rfl, by omega, eL ▸ hb9⟩⟩
                          exact tail (d) 0 op _ _ I hs1 ls (lv_sub hl [2, 3, 0, 4, 5, 6, 7, 8, 9] rfl)
                        · have hd0 : d = 0 := Decidable.byContradiction (fun h => nI_ne0 (Nat.pos_of_ne_zero h) (by omega) c_273)
                          have hL9 : L9 = [] := bkN_top hb9 (by omega)
                          have hN9 : N.2 ≤ j' + 1 + 1 := by
                            rw [hlen]
                            have h9 := congrArg List.length e9
                            rw [hL9, List.length_drop, List.length_singleton] at h9
                            omega
                          refine lv_iload hx hb dL_law_276 (lv_at hl 2 rfl) ?_
                          refine lv_iconst (v := 1) hx hb dL_law_278 (by decide) ?_
                          refine lv_iadd hx hb dL_law_279 ?_
                          refine W.eq (congrArg (fun z => F0 m 280 ls (.int z :: [])) (nI_add (j' + 1) 1)) ?_
                          refine lv_iload hx hb dL_law_280 (lv_at hl 4 rfl) ?_
                          refine lv_icmp_ge (tgt := 311) hx hb dL_law_282 (by decide) (fun c_282 => ?_) (fun c_282 => ?_)
                          · have hs1 : scI k rest (j' + 1 + 1) d 0 op := ⟨fun t ht => hop t (by omega), Or.inr ⟨rfl, c + 1, j' + 1, rfl, by omega, eL ▸ hb9⟩⟩
                            exact tail (d) 0 op _ _ I hs1 ls (lv_sub hl [2, 3, 0, 4, 5, 6, 7, 8, 9] rfl)
                          · exact absurd (nI_le hN9 (by omega)) c_282
              · exact absurd q2 c_179
          · refine lv_iload hx hb dL_law_170 (lv_at hl 0 rfl) ?_
            refine lv_if_lt (tgt := 232) hx hb dL_law_172 (by decide) (fun c_172 => ?_) (fun c_172 => ?_)
            · refine lv_iload hx hb dL_law_232 (lv_at hl 0 rfl) ?_
              refine lv_sipush (v := 600) hx hb dL_law_234 (by decide) ?_
              refine lv_icmp_lt (tgt := 311) hx hb dL_law_237 (by decide) (fun c_237 => ?_) (fun c_237 => ?_)
              · have hs1 : scI k rest (j' + 1 + 1) (d + 1) 0 op := ⟨hop, Or.inr ⟨rfl, c, j' + 1, rfl, ed, eL ▸ hb9⟩⟩
                exact tail (d + 1) 0 op _ _ I hs1 ls (lv_sub hl [1, 2, 3, 4, 5, 6, 7, 8, 9] rfl)
              · exact absurd (Int32.lt_trans c_172 (by decide)) c_237
            · refine lv_iload hx hb dL_law_175 (lv_at hl 0 rfl) ?_
              refine lv_bipush (v := 6) hx hb dL_law_177 (by decide) ?_
              refine lv_icmp_ge (tgt := 232) hx hb dL_law_179 (by decide) (fun c_179 => ?_) (fun c_179 => ?_)
              · refine lv_iload hx hb dL_law_232 (lv_at hl 0 rfl) ?_
                refine lv_sipush (v := 600) hx hb dL_law_234 (by decide) ?_
                refine lv_icmp_lt (tgt := 311) hx hb dL_law_237 (by decide) (fun c_237 => ?_) (fun c_237 => ?_)
                · have hs1 : scI k rest (j' + 1 + 1) (d + 1) 0 op := ⟨hop, Or.inr ⟨rfl, c, j' + 1, rfl, ed, eL ▸ hb9⟩⟩
                  exact tail (d + 1) 0 op _ _ I hs1 ls (lv_sub hl [1, 2, 3, 4, 5, 6, 7, 8, 9] rfl)
                · refine lv_iload hx hb dL_law_240 (lv_at hl 0 rfl) ?_
                  refine lv_sipush (v := 606) hx hb dL_law_242 (by decide) ?_
                  refine lv_icmp_ge (tgt := 311) hx hb dL_law_245 (by decide) (fun c_245 => ?_) (fun c_245 => ?_)
                  · have hs1 : scI k rest (j' + 1 + 1) (d + 1) 0 op := ⟨hop, Or.inr ⟨rfl, c, j' + 1, rfl, ed, eL ▸ hb9⟩⟩
                    exact tail (d + 1) 0 op _ _ I hs1 ls (lv_sub hl [1, 2, 3, 4, 5, 6, 7, 8, 9] rfl)
                  · refine lv_iload hx hb dL_law_248 (lv_at hl 3 rfl) ?_
                    refine lv_if_le (tgt := 311) hx hb dL_law_250 (by decide) (fun c_250 => ?_) (fun c_250 => ?_)
                    · exact absurd c_250 (nI_nle (by omega) (by omega))
                    · refine lv_iload hx hb dL_law_253 (lv_at hl 0 rfl) ?_
                      refine lv_sipush (v := 600) hx hb dL_law_255 (by decide) ?_
                      refine lv_aload_n hx hb dL_law_258 rfl (lv_at hl 7 rfl) ?_
                      refine lv_iload hx hb dL_law_259 (lv_at hl 3 rfl) ?_
                      refine lv_iconst (v := 1) hx hb dL_law_261 (by decide) ?_
                      refine lv_isub hx hb dL_law_262 ?_
                      refine W.eq (congrArg (fun z => F0 m 263 ls (.int z :: [.ref od, .int 600, .int x])) (nI_pred d)) ?_
                      refine k_iald (q0 := 13) (t0 := 4) (j := d) (x := nI c) S I rfl rfl (by omega) (by decide) rfl ((hop d (by omega)).trans (congrArg nI (by omega))) dL_law_263 ?_
                      refine lv_iadd hx hb dL_law_264 ?_
                      refine lv_icmp_ne (tgt := 311) hx hb dL_law_265 (by decide) (fun c_265 => ?_) (fun c_265 => ?_)
                      · have hs1 : scI k rest (j' + 1 + 1) (d + 1) 0 op := ⟨hop, Or.inr ⟨rfl, c, j' + 1, rfl, ed, eL ▸ hb9⟩⟩
                        exact tail (d + 1) 0 op _ _ I hs1 ls (lv_sub hl [1, 2, 3, 4, 5, 6, 7, 8, 9] rfl)
                      · exact absurd c_265 ho.2
              · exact absurd ⟨Int32.not_lt.mp c_172, Int32.not_le.mp c_179⟩ ho.1
set_option maxHeartbeats 40000000 in
set_option maxRecDepth 100000 in
/-- THE RUNS -/
theorem law_runs {p : Program} {e : Env} {s : State} {m : MethodId} {below : List Frame} {meth : Method} {c : Code} (l : Launch) (hfl : l.stackTraces = false) {b L : Nat} {xs : Nat → Int32} (hL : L ≤ 260) (S : CallFix p m c cL_law 10 s #[Value.ref b] wtL_law RL) (hX : va_X b L xs s s.heap) (hbl : b < s.heap.size) (D : va_G) (cy : Nat → ClassId) (ad : Nat → Nat) (hr : meth.sig.returnType = ret) (hlocks : meth.locks = false) (od : Nat) :
    ∀ (n i : Nat), i ≤ 40 → 40 < i + n → ∀ (C : rC) (N : rN) (T : rT) (op : Nat → Int32), N.2 < 99000 → T.2.2 ≤ 7 → ∀ (H : Heap) (locs : List Loc), KI D cy (fun q => s.heap.size ≤ q) (rgW ad cy C N T (nI i) ([(od, .inl (cy 4, 64, .inl op))])) s H locs → ∀ ls : Array Slot, lv_has ls 10 [(3, .int (nI i)), (2, .ref od), (1, .ref (ad 0)), (0, .ref b)] → W p l e room_1 s m #[Value.ref b] below meth c H locs (25 + 2 * i) (300 + 16 * i) (lw_Z below #[Value.ref b] s) (F0 m 73 ls []) := by
  obtain ⟨hx, hb, hml, hown, hts⟩ := id S
  intro n
  induction n with
  | zero => intro i h1 h2; exact absurd h2 (by omega)
  | succ n ih =>
    intro i hi0 hi1 C N T op hN hT H locs I ls hl
    have fin : ∀ (H : Heap) (locs : List Loc), KI D cy (fun q => s.heap.size ≤ q) (rgW ad cy C N T (nI i) ([(od, .inl (cy 4, 64, .inl op))])) s H locs → ∀ ls : Array Slot, W p l e room_1 s m #[Value.ref b] below meth c H locs (25 + 2 * i) (300 + 16 * i) (lw_Z below #[Value.ref b] s) (F0 m 348 ls []) := by
      intro H locs I ls
      refine lv_iconst (v := 1) hx hb dL_law_348 (by decide) ?_
      refine va_forget (fun q hq => I.2.2.2.2.2.2.2 q hq) ?_
      refine W.widen (k := 668902) (n := 7089309) (by omega) (by omega) ?_
      exact lw_ret hx hb hr hlocks dL_law_349
    refine lv_iload_n hx hb dL_law_73 rfl (lv_at hl 0 rfl) ?_
    refine lv_aload_n hx hb dL_law_74 rfl (lv_at hl 3 rfl) ?_
    refine va_slen hx hb hX hbl (Nat.not_le.mpr hbl) I.2.2.2.2.2 dL_law_75 ?_
    refine lv_icmp_ge (tgt := 348) hx hb dL_law_76 (by decide) (fun c_76 => ?_) (fun c_76 => ?_)
    · exact fin _ _ I ls
    · have hiL : i < L := Nat.lt_of_not_le (fun h => c_76 (nI_le h (by omega)))
      refine lv_iload_n hx hb dL_law_79 rfl (lv_at hl 0 rfl) ?_
      refine lv_bipush (v := 40) hx hb dL_law_80 (by decide) ?_
      refine lv_icmp_ge (tgt := 348) hx hb dL_law_82 (by decide) (fun c_82 => ?_) (fun c_82 => ?_)
      · exact fin _ _ I ls
      · have hi4 : i < 40 := Nat.lt_of_not_le (fun h => c_82 (show nI 40 ≤ nI i from nI_le h (by omega)))
        obtain ⟨k, hk, ek⟩ := top_of (xs i)
        refine lv_aload_n hx hb dL_law_85 rfl (lv_at hl 3 rfl) ?_
        refine lv_iload_n hx hb dL_law_86 rfl (lv_at hl 0 rfl) ?_
        refine k_scr (j := i) (x := xs i) S I hX hbl (by omega) rfl (by omega) rfl dL_law_87 ?_
        refine lv_bipush (v := 15) hx hb dL_law_88 (by decide) ?_
        refine lv_iand hx hb dL_law_90 ?_
        refine lv_bipush (v := 6) hx hb dL_law_91 (by decide) ?_
        refine lv_irem hx hb dL_law_93 (by decide) ?_
        refine W.eq (congrArg (fun z => F0 m 94 ls (.int z :: [])) ek) ?_
        refine lv_istore (lv' := [(4, .int (nI k)), (3, .int (nI i)), (2, .ref od), (1, .ref (ad 0)), (0, .ref b)]) hx hb dL_law_94 hl (by decide) rfl (fun ls hl => ?_)
        refine lv_aload_n hx hb dL_law_96 rfl (lv_at hl 3 rfl) ?_
        refine lv_iload hx hb dL_law_97 (lv_at hl 0 rfl) ?_
        refine lv_aload_n hx hb dL_law_99 rfl (lv_at hl 4 rfl) ?_
        refine lv_iload_n hx hb dL_law_100 rfl (lv_at hl 1 rfl) ?_
        refine k_scr (j := i) (x := xs i) S I hX hbl (by omega) rfl (by omega) rfl dL_law_101 ?_
        refine lv_iconst (v := 4) hx hb dL_law_102 (by decide) ?_
        refine lv_ishr hx hb dL_law_103 ?_
        refine lv_bipush (v := 15) hx hb dL_law_104 (by decide) ?_
        refine lv_iand hx hb dL_law_106 ?_
        refine lv_iconst (v := 1) hx hb dL_law_107 (by decide) ?_
        refine lv_isub hx hb dL_law_108 ?_
        refine lv_aload_n hx hb dL_law_109 rfl (lv_at hl 4 rfl) ?_
        refine lv_iload_n hx hb dL_law_110 rfl (lv_at hl 1 rfl) ?_
        refine k_scr (j := i) (x := xs i) S I hX hbl (by omega) rfl (by omega) rfl dL_law_111 ?_
        refine lv_bipush (v := 8) hx hb dL_law_112 (by decide) ?_
        refine lv_ishr hx hb dL_law_114 ?_
        refine k_SWl (As := [.ref (ad 0), .int (nI k), .int ((((xs i) >>> (4 &&& 31)) &&& 15) - 1), .int ((xs i) >>> (8 &&& 31))]) (rest := []) (w1 := rgW ad cy C ((dlF C k (gdF C k) (((xs i >>> (4 &&& 31)) &&& 15) - 1) (xs i >>> (8 &&& 31)) ((N.1, 0), dpT T)).1.1) ((dlF C k (gdF C k) (((xs i >>> (4 &&& 31)) &&& 15) - 1) (xs i >>> (8 &&& 31)) ((N.1, 0), dpT T)).1.2) (nI i + 1) ([(od, .inl (cy 4, 64, .inl op))])) S I (c_Lrun l hfl D cy _ ad C N T (nI i) [(od, .inl (cy 4, 64, .inl op))] k hk (((xs i >>> (4 &&& 31)) &&& 15) - 1) (xs i >>> (8 &&& 31))) (vx_cwSW 4 hts (gx_S gL_law_L_run xw_good) rfl rfl rfl (by decide +kernel) ⟨(Nat.le_of_ble_eq_true rfl), (Nat.le_of_ble_eq_true rfl)⟩) rfl hl.1 rfl (Nat.le_of_ble_eq_true rfl) dL_law_115 ⟨by show 25 + 2 * i + 1 ≤ 668902; omega, by show 300 + 16 * i + 8 ≤ 7089309; omega⟩ (fun G H locs I => ?_)
        obtain ⟨rest, er, hbk, -⟩ := run_n C hk (((xs i >>> (4 &&& 31)) &&& 15) - 1) (xs i >>> (8 &&& 31)) N T
        obtain ⟨hN1, hT1⟩ := run_h C hk (((xs i >>> (4 &&& 31)) &&& 15) - 1) (xs i >>> (8 &&& 31)) N T
        generalize (dlF C k (gdF C k) (((xs i >>> (4 &&& 31)) &&& 15) - 1) (xs i >>> (8 &&& 31)) ((N.1, 0), dpT T)).1.1 = N1 at I er hN1
        generalize (dlF C k (gdF C k) (((xs i >>> (4 &&& 31)) &&& 15) - 1) (xs i >>> (8 &&& 31)) ((N.1, 0), dpT T)).1.2 = T1 at I hT1
        have I := I.to (w1 := rgW ad cy C N1 T1 (nI (i + 1)) ([(od, .inl (cy 4, 64, .inl op))])) (by rw [← nI_succ])
        have hlen : N1.2 = rest.length + 1 := by rw [er, apN_2, List.length_cons]; omega
        have hat : ∀ (j : Nat) (x : Int32), (nI k :: rest)[j]? = some x → j < 64 → N1.1 j = x := fun j x h1 h2 => by
          have h9 := apN_at (nI k :: rest) (N.1, 0) j x h1 (by show 0 + j < 64; omega)
          rw [← er] at h9
          rwa [show (N.1, 0).2 + j = j from Nat.zero_add j] at h9
        refine W.widen (k := 26 + 2 * i) (n := 308 + 16 * i) (by omega) (by omega) ?_
        refine lv_pop2_2 hx hb dL_law_118 rfl ?_
        refine lv_aload_n hx hb dL_law_119 rfl (lv_at hl 3 rfl) ?_
        refine lv_iconst (v := 1) hx hb dL_law_120 (by decide) ?_
        refine k_SWi (As := [.ref (ad 0), .int 1]) (rest := []) (w1 := rgW ad cy C N1 T1 (nI (i + 1)) ([(od, .inl (cy 4, 64, .inl op))])) (G := (cnF N1 T1 (nI (i + 1)) 1)) S I (c_Lcount1 l hfl D cy _ ad C N1 T1 (nI (i + 1)) [(od, .inl (cy 4, 64, .inl op))] hT1 1 ⟨by decide, by decide⟩) (vx_cwSW 2 hts (gx_L gL_law_L_count) rfl rfl rfl (by decide +kernel) ⟨(Nat.le_of_ble_eq_true rfl), (Nat.le_of_ble_eq_true rfl)⟩) rfl hl.1 rfl (Nat.le_of_ble_eq_true rfl) dL_law_121 ⟨by show 26 + 2 * i + 0 ≤ 668902; omega, by show 308 + 16 * i + 0 ≤ 7089309; omega⟩ (fun H locs I => ?_)
        refine W.eq (congrArg (fun z => F0 m 124 ls (.int z :: [])) (cnF_1 N1 T1 (nI (i + 1)))) ?_
        refine lv_iload_n hx hb dL_law_124 rfl (lv_at hl 1 rfl) ?_
        refine lv_iconst (v := 1) hx hb dL_law_125 (by decide) ?_
        refine lv_iadd hx hb dL_law_126 ?_
        refine W.eq (congrArg (fun z => F0 m 127 ls (.int z :: [.int (nI (i + 1))])) (nI_add i 1)) ?_
        refine lv_icmp_eq (tgt := 132) hx hb dL_law_127 (by decide) (fun c_127 => ?_) (fun c_127 => ?_)
        · refine lv_aload_n hx hb dL_law_132 rfl (lv_at hl 3 rfl) ?_
          refine lv_iconst (v := 0) hx hb dL_law_133 (by decide) ?_
          refine k_SWi (As := [.ref (ad 0), .int 0]) (rest := []) (w1 := rgW ad cy C N1 T1 (nI (i + 1)) ([(od, .inl (cy 4, 64, .inl op))])) (G := (cnF N1 T1 (nI (i + 1)) 0)) S I (c_Lcount1 l hfl D cy _ ad C N1 T1 (nI (i + 1)) [(od, .inl (cy 4, 64, .inl op))] hT1 0 ⟨by decide, by decide⟩) (vx_cwSW 2 hts (gx_L gL_law_L_count) rfl rfl rfl (by decide +kernel) ⟨(Nat.le_of_ble_eq_true rfl), (Nat.le_of_ble_eq_true rfl)⟩) rfl hl.1 rfl (Nat.le_of_ble_eq_true rfl) dL_law_134 ⟨by show 26 + 2 * i + 0 ≤ 668902; omega, by show 308 + 16 * i + 0 ≤ 7089309; omega⟩ (fun H locs I => ?_)
          refine W.eq (congrArg (fun z => F0 m 137 ls (.int z :: [])) (cnF_0 N1 T1 (nI (i + 1)))) ?_
          refine lv_istore (lv' := [(5, .int (nI N1.2)), (4, .int (nI k)), (3, .int (nI i)), (2, .ref od), (1, .ref (ad 0)), (0, .ref b)]) hx hb dL_law_137 hl (by decide) rfl (fun ls hl => ?_)
          refine lv_iconst (v := 0) hx hb dL_law_139 (by decide) ?_
          refine lv_istore (lv' := [(6, .int 0), (5, .int (nI N1.2)), (4, .int (nI k)), (3, .int (nI i)), (2, .ref od), (1, .ref (ad 0)), (0, .ref b)]) hx hb dL_law_140 hl (by decide) rfl (fun ls hl => ?_)
          refine lv_iconst (v := 1) hx hb dL_law_142 (by decide) ?_
          refine lv_istore (lv' := [(7, .int 1), (6, .int 0), (5, .int (nI N1.2)), (4, .int (nI k)), (3, .int (nI i)), (2, .ref od), (1, .ref (ad 0)), (0, .ref b)]) hx hb dL_law_143 hl (by decide) rfl (fun ls hl => ?_)
          refine lv_iconst (v := 0) hx hb dL_law_145 (by decide) ?_
          refine lv_istore (lv' := [(8, .int 0), (7, .int 1), (6, .int 0), (5, .int (nI N1.2)), (4, .int (nI k)), (3, .int (nI i)), (2, .ref od), (1, .ref (ad 0)), (0, .ref b)]) hx hb dL_law_146 hl (by decide) rfl (fun ls hl => ?_)
          have hs0 : scI k rest 0 0 1 op := ⟨fun t ht => absurd ht (Nat.not_lt_zero t), Or.inl ⟨rfl, rfl, rfl⟩⟩
          refine law_scan l hfl hL S hX hbl D cy ad od hk hN1 hlen hat hbk (K1 := 26 + 2 * i) (K2 := 308 + 16 * i) (by omega) (by omega) ?_ 65 0 (by omega) (by decide) (by decide) 0 1 op hs0 _ _ I ls (lv_sub hl [0, 1, 2, 3, 4, 5, 6, 7, 8] rfl)
          intro d op H locs I hd ls hl
          have last : ∀ (H : Heap) (locs : List Loc), KI D cy (fun q => s.heap.size ≤ q) (rgW ad cy C N1 T1 (nI (i + 1)) ([(od, .inl (cy 4, 64, .inl op))])) s H locs → ∀ ls : Array Slot, lv_has ls 10 [(6, .int (nI d)), (5, .int (nI N1.2)), (3, .int (nI i)), (2, .ref od), (1, .ref (ad 0)), (0, .ref b)] → W p l e room_1 s m #[Value.ref b] below meth c H locs (26 + 2 * i) (308 + 16 * i) (lw_Z below #[Value.ref b] s) (F0 m 329 ls []) := by
            intro H locs I ls hl
            refine lv_aload_n hx hb dL_law_329 rfl (lv_at hl 4 rfl) ?_
            refine lv_iload hx hb dL_law_330 (lv_at hl 1 rfl) ?_
            refine k_SWi (As := [.ref (ad 0), .int (nI N1.2)]) (rest := []) (w1 := rgW ad cy C N1 T1 (nI (i + 1)) ([(od, .inl (cy 4, 64, .inl op))])) (G := -1000000101) S I (c_Lnote0 l hfl D cy _ ad C N1 T1 (nI (i + 1)) [(od, .inl (cy 4, 64, .inl op))] (by omega) (nI N1.2) (Or.inr (Or.inl (Int32.le_refl _)))) (vx_cwSW 2 hts (gx_S gL_law_L_note xw_good) rfl rfl rfl (by decide +kernel) ⟨(Nat.le_of_ble_eq_true rfl), (Nat.le_of_ble_eq_true rfl)⟩) rfl hl.1 rfl (Nat.le_of_ble_eq_true rfl) dL_law_332 ⟨by show 26 + 2 * i + 1 ≤ 668902; omega, by show 308 + 16 * i + 8 ≤ 7089309; omega⟩ (fun H locs I => ?_)
            refine lv_ldc (v := -1000000101) hx hb hown (hts (.constant RL 15 (-1000000101)) (List.mem_append_left _ (by decide +kernel))) dL_law_335 ?_
            refine lv_icmp_eq (tgt := 342) hx hb dL_law_337 (by decide) (fun c_337 => ?_) (fun c_337 => ?_)
            · refine lv_iinc (v := (nI (i + 1))) (lv' := [(3, .int (nI (i + 1))), (6, .int (nI d)), (5, .int (nI N1.2)), (2, .ref od), (1, .ref (ad 0)), (0, .ref b)]) hx hb dL_law_342 hl (k := 2) rfl (nI_add i 1) (by decide) rfl (fun ls hl => ?_)
              refine lv_goto (tgt := 73) hx hb dL_law_345 (by decide) ?_
              refine W.widen (k := 25 + 2 * (i + 1)) (n := 300 + 16 * (i + 1)) (by omega) (by omega) ?_
              exact ih (i + 1) (by omega) (by omega) C N1 T1 op hN1 hT1 _ _ I ls (lv_sub hl [0, 3, 4, 5] rfl)
            · exact absurd rfl c_337
          refine lv_iload hx hb dL_law_317 (lv_at hl 1 rfl) ?_
          refine lv_bipush (v := 64) hx hb dL_law_319 (by decide) ?_
          refine lv_icmp_gt (tgt := 329) hx hb dL_law_321 (by decide) (fun c_321 => ?_) (fun c_321 => ?_)
          · exact last _ _ I ls hl
          · refine lv_iload hx hb dL_law_324 (lv_at hl 0 rfl) ?_
            refine lv_if_ne (tgt := 340) hx hb dL_law_326 (by decide) (fun c_326 => ?_) (fun c_326 => ?_)
            · exact absurd (show nI d = 0 from by rw [hd (Nat.not_lt.mp (fun h => c_321 (show nI 64 < nI N1.2 from nI_lt h (by omega))))]; rfl) c_326
            · exact last _ _ I ls hl
        · exact absurd rfl c_127
set_option maxHeartbeats 40000000 in
set_option maxRecDepth 100000 in
/-- THE LAW, from its entry -/
theorem whole_start {p : Program} {e : Env} {s : State} {m : MethodId} {below : List Frame} {meth : Method} {c : Code} (l : Launch) (hflags : l.flags = flags0) {b L : Nat} {xs : Nat → Int32} (hL : L ≤ 260) (C0 : lw_At p s m meth c b L xs) : W p l e room_1 s m #[Value.ref b] below meth c s.heap [] 0 0 (lw_Z below #[Value.ref b] s) (entryFrame m ([Value.ref b] : List Value).toArray 10) := by
  obtain ⟨D, cy, I⟩ := law_env C0
  obtain ⟨hx, hb, hr, hml, hown, htb, hX, hbl, hlocks, hgv⟩ := id C0
  have hts : ∀ w ∈ wtL_law, w.before #[Value.ref b] s = true := fun w h => htb w (wtL_law_in w h)
  have S : CallFix p m c cL_law 10 s #[Value.ref b] wtL_law RL := ⟨hx, hb, hml, hown, hts⟩
  have hfl : l.stackTraces = false := by show (!l.flags.contains noTraceFlag) = false; rw [hflags]; decide +kernel
  have hl := lv_entry ([.ref b]) (n := 10) (Nat.le_of_ble_eq_true rfl)
  rw [lg_entry_eq]
  generalize (lg_sl ([.ref b]) ++ List.replicate (10 - (lg_sl ([.ref b])).length) Slot.unset).toArray = ls at hl ⊢
  have hl : lv_has ls 10 [(0, .ref b)] := hl
  refine k_new (C := RX3) (T := TX3) (N := 4) (ci := 3) (fs := [.null, .null, .null, .int 0]) (wf := fun h => [(h, .inr (3, [.null, .null, .null, .int 0]))]) S I il_X3 tyX3 tyX3_ok (List.mem_append_left _ (by decide +kernel)) (List.mem_append_left _ (by decide +kernel)) (List.mem_append_left _ (by decide +kernel)) rfl (fun j hj => by match j, hj with | 0, _ => rfl | 1, _ => rfl | 2, _ => rfl | 3, _ => rfl) (Nat.le_of_ble_eq_true rfl) (Nat.le_of_ble_eq_true rfl) (fun _ => rfl) dL_law_0 (fun h H I => ?_)
  refine lv_dup hx hb dL_law_3 rfl ?_
  refine k_II (As := []) (rest := [.ref h]) S I (c_Rinit l D cy _ h) (cwI 0 hts (gx_L gL_law_X3_init) rfl rfl rfl (hts (.initialized RX3) (List.mem_append_left _ (by decide +kernel))) (hts (.methodLink RL 45 yX3_init) (List.mem_append_left _ (by decide +kernel))) (hts (.instanceMethod yX3_init) (List.mem_append_left _ (by decide +kernel))) rfl (by decide +kernel) ⟨(Nat.le_of_ble_eq_true rfl), (Nat.le_of_ble_eq_true rfl)⟩) rfl hl.1 rfl (Nat.le_of_ble_eq_true rfl) dL_law_4 ⟨(Nat.le_of_ble_eq_true rfl), (Nat.le_of_ble_eq_true rfl)⟩ (fun ad H locs h9 I2 => ?_)
  subst h9
  have I := I2
  refine lv_astore_n (lv' := [(1, .ref (ad 0)), (0, .ref b)]) hx hb dL_law_7 rfl hl (by decide) rfl (fun ls hl => ?_)
  refine lv_iconst (v := 0) hx hb dL_law_8 (by decide) ?_
  refine lv_istore_n (lv' := [(2, .int (nI (4 * 0))), (1, .ref (ad 0)), (0, .ref b)]) hx hb dL_law_9 rfl hl (by decide) rfl (fun ls hl => ?_)
  refine W.widen (k := 20) (n := 200) (Nat.le_of_ble_eq_true rfl) (Nat.le_of_ble_eq_true rfl) ?_
  refine law_sets l hfl hL S hX hbl D cy ad ?_ 7 0 (by decide) (by decide) rC0 _ _ I ls hl
  intro C H locs I ls hl
  refine lv_bipush (v := 64) hx hb dL_law_66 (by decide) ?_
  refine k_newa (t0 := 4) (N' := 64) (wf := fun od => rgW ad cy C rN0 rT0 0 [(od, .inl (cy 4, 64, .inl (fun _ => 0)))]) S I (List.mem_append_left _ (by decide +kernel)) rfl (by decide) rfl (Nat.le_of_ble_eq_true rfl) (Nat.le_of_ble_eq_true rfl) (Nat.le_of_ble_eq_true rfl) (fun _ => rfl) dL_law_68 (fun od H I => ?_)
  refine lv_astore_n (lv' := [(2, .ref od), (1, .ref (ad 0)), (0, .ref b)]) hx hb dL_law_70 rfl hl (by decide) rfl (fun ls hl => ?_)
  refine lv_iconst (v := 0) hx hb dL_law_71 (by decide) ?_
  refine lv_istore_n (lv' := [(3, .int (nI 0)), (2, .ref od), (1, .ref (ad 0)), (0, .ref b)]) hx hb dL_law_72 rfl hl (by decide) rfl (fun ls hl => ?_)
  have I := I.to (w1 := rgW ad cy C rN0 rT0 (nI 0) [(od, .inl (cy 4, 64, .inl (fun _ => 0)))]) rfl
  refine W.widen (k := 25) (n := 300) (Nat.le_of_ble_eq_true rfl) (Nat.le_of_ble_eq_true rfl) ?_
  exact law_runs l hfl hL S hX hbl D cy ad hr hlocks od 41 0 (by decide) (by decide) C rN0 rT0 (fun _ => 0) (by decide) (by decide) _ _ I ls hl
