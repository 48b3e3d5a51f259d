/-! THE LAW: its loop and its walk, laid by wip/whole/law.py -/
theorem k_sw03 (x : Int32) : (x.toInt < 0 ∨ 3 < x.toInt) ∨ x = 0 ∨ x = 1 ∨ x = 2 ∨ x = 3 := by
  by_cases h : x.toInt < 0 ∨ 3 < x.toInt
  · exact Or.inl h
  · have h2 : x.toInt = 0 ∨ x.toInt = 1 ∨ x.toInt = 2 ∨ x.toInt = 3 := by omega
    rcases h2 with h | h | h | h
    · exact Or.inr (Or.inl (k_ti h))
    · exact Or.inr (Or.inr (Or.inl (k_ti h)))
    · exact Or.inr (Or.inr (Or.inr (Or.inl (k_ti h))))
    · exact Or.inr (Or.inr (Or.inr (Or.inr (k_ti h))))
theorem lp_lt {i L : Nat} (hi : i < 100000) (hL : L < 100000) (h : ¬ nI L - 6 < nI i) : i + 6 ≤ L := by
  have h1 := Int32.le_iff_toInt_le.mp (Int32.not_lt.mp h)
  rw [Int32.toInt_sub, nI_toInt (by omega), nI_toInt (by omega), show (6 : Int32).toInt = 6 from rfl, Int.bmod_eq_of_le (by omega) (by omega)] at h1
  omega
/-- an element of the law's script -/
theorem k_scr {p : Program} {l : Launch} {e : Env} {R : Room} {s : State} {m : MethodId} {args : Array Value} {below : List Frame} {meth : Method} {c : Code} {H : Heap} {locs : List Loc} {cells slots : Nat} {Q : State → Prop} {cc : ByteArray} {nL : Nat} {Ts : List Cond} {own : String} {D : va_G} {cy : Nat → ClassId} {ww : va_W} {pc : Nat} {ls : Array Slot} {rest : List Value}
    {b L j : Nat} {xs : Nat → Int32} {i x : Int32} (S : CallFix p m c cc nL s args Ts own) (I : KI D cy (fun q => s.heap.size ≤ q) ww s H locs) (hX : va_X b L xs s s.heap) (hbl : b < s.heap.size) (hL : L < 2 ^ 31) (hi : i = nI j) (hj : j < L) (hx : xs j = x) (d : decode cc pc = .ok (.iaload, 1))
    (kk : W p l e R s m args below meth c H locs cells slots Q (F0 m (pc + 1) ls (.int x :: rest))) : W p l e R s m args below meth c H locs cells slots Q (F0 m pc ls (.int i :: .ref b :: rest)) := by
  subst hi; subst hx
  refine va_sld S.1 S.2.1 hX hbl (Nat.not_le.mpr hbl) I.2.2.2.2.2 (vp_in_nI hj hL) d ?_
  rw [nI_clamp (by omega)]
  exact kk
/-- what holds between the rig and the reference at the loop's head -/
def lI (N : rN) (T : rT) (M : mM) (o2 : Int32) : Prop := N.2 < 99000 ∧ T.2.2 ≤ 7 ∧ M.2.2.2.1 ≤ 4000 ∧ chM M T.1 T.2.1 T.2.2 o2 ∧ (0 < T.2.2 → kOk (kdT T))
set_option maxHeartbeats 40000000 in
set_option maxRecDepth 100000 in
/-- THE LAW'S LOOP -/
theorem law_loop {p : Program} {e : Env} {s : State} {m : MethodId} {below : List Frame} {meth : Method} {c : Code} (l : Launch) (hfl : l.stackTraces = false) {b L : Nat} {xs : Nat → Int32} (hL : L ≤ 3072) (S : CallFix p m c cL_law 8 s #[Value.ref b] wtL_law RL) (hr : meth.sig.returnType = ret) (hlocks : meth.locks = false) (hX : va_X b L xs s s.heap) (hbl : b < s.heap.size) (D : va_G) (cy : Nat → ClassId) (ad bd : Nat → Nat) (od : Nat) :
    ∀ (n i : Nat), i ≤ L → L < i + n → ∀ (C : rC) (N : rN) (T : rT) (M : mM) (rn o2 c2 : Int32) (fo : Nat → Int64), lI N T M o2 → ∀ (H : Heap) (locs : List Loc), KI D cy (fun q => s.heap.size ≤ q) (rgW ad cy C N T rn (mdW bd cy C (N, M) rn o2 c2 [(od, .inl (cy 13, 1, .inr (.inl fo)))])) s H locs → ∀ ls : Array Slot, lv_has ls 8 [(4, .int (nI i)), (3, .ref od), (2, .ref (bd 0)), (1, .ref (ad 0)), (0, .ref b)] → W p l e room_1 s m #[Value.ref b] below meth c H locs (100 + i) (20000 + 8 * i) (lw_Z below #[Value.ref b] s) (F0 m 23 ls []) := by
  obtain ⟨hx, hb, hml, hown, hts⟩ := id S
  intro n
  induction n with
  | zero => intro i h1 h2; exact absurd h2 (by omega)
  | succ n ih =>
    intro i hi0 hi1 C N T M rn o2 c2 fo hI H locs I ls hl
    have hN5 : N.2 < 100000 := Nat.lt_trans hI.1 (by decide)
    refine lv_iload hx hb dL_law_23 (lv_at hl 0 rfl) ?_
    refine lv_aload_n hx hb dL_law_25 rfl (lv_at hl 4 rfl) ?_
    refine va_slen hx hb hX hbl (Nat.not_le.mpr hbl) I.2.2.2.2.2 dL_law_26 ?_
    refine lv_bipush (v := 6) hx hb dL_law_27 (by decide) ?_
    refine lv_isub hx hb dL_law_29 ?_
    refine lv_icmp_gt (tgt := 369) hx hb dL_law_30 (by decide) (fun c_30 => ?_) (fun c_30 => ?_)
    · refine lv_iconst (v := 1) hx hb dL_law_369 (by decide) ?_
      refine va_forget (fun q hq => I.2.2.2.2.2.2.2 q hq) ?_
      refine W.widen (k := 603072) (n := 7223402) (by omega) (by omega) ?_
      exact lw_ret hx hb hr hlocks dL_law_370
    · have hlt : i + 6 ≤ L := lp_lt (by omega) (by omega) c_30
      refine lv_aload_n hx hb dL_law_33 rfl (lv_at hl 4 rfl) ?_
      refine lv_iload hx hb dL_law_34 (lv_at hl 0 rfl) ?_
      refine k_scr (j := i) (x := xs i) S I hX hbl (by omega) rfl (by omega) rfl dL_law_36 ?_
      refine lv_iconst (v := 3) hx hb dL_law_37 (by decide) ?_
      refine lv_iand hx hb dL_law_38 ?_
      rcases k_sw03 ((xs i) &&& 3) with c_39 | c_39 | c_39 | c_39 | c_39
      · refine lv_tableOut (tgt := 363) hx hb dL_law_39 c_39 (by decide) ?_
        refine lv_iinc (v := (nI (i + 6))) (lv' := [(4, .int (nI (i + 6))), (3, .ref od), (2, .ref (bd 0)), (1, .ref (ad 0)), (0, .ref b)]) hx hb dL_law_363 hl (k := 0) rfl (nI_add i 6) (by decide) rfl (fun ls hl => ?_)
        refine lv_goto (tgt := 23) hx hb dL_law_366 (by decide) ?_
        refine W.widen (k := 100 + (i + 6)) (n := 20000 + 8 * (i + 6)) (by omega) (by omega) ?_
        exact ih (i + 6) (by omega) (by omega) C N T M rn o2 c2 fo hI _ _ I ls (lv_sub hl [0, 1, 2, 3, 4] rfl)
      · refine lv_tableIn (tgt := 68) hx hb dL_law_39 (by rw [c_39]; decide) (by rw [c_39]; decide) (by rw [c_39]; rfl) (by decide) ?_
        by_cases hx0 : isL (xs (i + 1)) = 0
        · have hh := hx0
          refine lv_aload_n hx hb dL_law_68 rfl (lv_at hl 3 rfl) ?_
          refine lv_aload_n hx hb dL_law_69 rfl (lv_at hl 4 rfl) ?_
          refine lv_iload hx hb dL_law_70 (lv_at hl 0 rfl) ?_
          refine lv_iconst (v := 1) hx hb dL_law_72 (by decide) ?_
          refine lv_iadd hx hb dL_law_73 ?_
          refine k_scr (j := i + 1) (x := xs (i + 1)) S I hX hbl (by omega) (nI_add i 1) (by omega) rfl dL_law_74 ?_
          refine lv_aload_n hx hb dL_law_75 rfl (lv_at hl 4 rfl) ?_
          refine lv_iload hx hb dL_law_76 (lv_at hl 0 rfl) ?_
          refine lv_iconst (v := 2) hx hb dL_law_78 (by decide) ?_
          refine lv_iadd hx hb dL_law_79 ?_
          refine k_scr (j := i + 2) (x := xs (i + 2)) S I hX hbl (by omega) (nI_add i 2) (by omega) rfl dL_law_80 ?_
          refine lv_aload_n hx hb dL_law_81 rfl (lv_at hl 4 rfl) ?_
          refine lv_iload hx hb dL_law_82 (lv_at hl 0 rfl) ?_
          refine lv_iconst (v := 3) hx hb dL_law_84 (by decide) ?_
          refine lv_iadd hx hb dL_law_85 ?_
          refine k_scr (j := i + 3) (x := xs (i + 3)) S I hX hbl (by omega) (nI_add i 3) (by omega) rfl dL_law_86 ?_
          refine lv_aload_n hx hb dL_law_87 rfl (lv_at hl 4 rfl) ?_
          refine lv_iload hx hb dL_law_88 (lv_at hl 0 rfl) ?_
          refine lv_iconst (v := 4) hx hb dL_law_90 (by decide) ?_
          refine lv_iadd hx hb dL_law_91 ?_
          refine k_scr (j := i + 4) (x := xs (i + 4)) S I hX hbl (by omega) (nI_add i 4) (by omega) rfl dL_law_92 ?_
          refine lv_aload_n hx hb dL_law_93 rfl (lv_at hl 4 rfl) ?_
          refine lv_iload hx hb dL_law_94 (lv_at hl 0 rfl) ?_
          refine lv_iconst (v := 5) hx hb dL_law_96 (by decide) ?_
          refine lv_iadd hx hb dL_law_97 ?_
          refine k_scr (j := i + 5) (x := xs (i + 5)) S I hX hbl (by omega) (nI_add i 5) (by omega) rfl dL_law_98 ?_
          refine lv_aload_n hx hb dL_law_99 rfl (lv_at hl 1 rfl) ?_
          refine k_SWi (As := [.ref (ad 0), .int (xs (i + 1)), .int (xs (i + 2)), .int (xs (i + 3)), .int (xs (i + 4)), .int (xs (i + 5)), .ref od]) (rest := []) (w1 := rgW ad cy C N T rn (mdW bd cy C (N, M) rn o2 c2 ([(od, .inl (cy 13, 1, .inr (.inl fo)))]))) (G := 1) S I (c_Lset0 l hfl D cy _ ad bd C N T rn C (N, M) rn o2 c2 od fo (xs (i + 1)) (xs (i + 2)) (xs (i + 3)) (xs (i + 4)) (xs (i + 5)) hx0) (vx_cwSW 7 hts (gx_S gL_law_L_set xw_good) rfl rfl rfl (by decide +kernel) ⟨(Nat.le_of_ble_eq_true rfl), (Nat.le_of_ble_eq_true rfl)⟩) rfl hl.1 rfl (Nat.le_of_ble_eq_true rfl) dL_law_100 ⟨by show 100 + i + 1 ≤ 603072; omega, by show 20000 + 8 * i + 8 ≤ 7223402; omega⟩ (fun H locs I => ?_)
          refine lv_istore (lv' := [(5, .int 1), (4, .int (nI i)), (3, .ref od), (2, .ref (bd 0)), (1, .ref (ad 0)), (0, .ref b)]) hx hb dL_law_103 hl (by decide) rfl (fun ls hl => ?_)
          refine lv_aload_n hx hb dL_law_105 rfl (lv_at hl 3 rfl) ?_
          refine lv_aload_n hx hb dL_law_106 rfl (lv_at hl 5 rfl) ?_
          refine lv_iload hx hb dL_law_107 (lv_at hl 1 rfl) ?_
          refine lv_iconst (v := 1) hx hb dL_law_109 (by decide) ?_
          refine lv_iadd hx hb dL_law_110 ?_
          refine k_scr (j := i + 1) (x := xs (i + 1)) S I hX hbl (by omega) (nI_add i 1) (by omega) rfl dL_law_111 ?_
          refine lv_aload_n hx hb dL_law_112 rfl (lv_at hl 5 rfl) ?_
          refine lv_iload hx hb dL_law_113 (lv_at hl 1 rfl) ?_
          refine lv_iconst (v := 2) hx hb dL_law_115 (by decide) ?_
          refine lv_iadd hx hb dL_law_116 ?_
          refine k_scr (j := i + 2) (x := xs (i + 2)) S I hX hbl (by omega) (nI_add i 2) (by omega) rfl dL_law_117 ?_
          refine lv_aload_n hx hb dL_law_118 rfl (lv_at hl 5 rfl) ?_
          refine lv_iload hx hb dL_law_119 (lv_at hl 1 rfl) ?_
          refine lv_iconst (v := 3) hx hb dL_law_121 (by decide) ?_
          refine lv_iadd hx hb dL_law_122 ?_
          refine k_scr (j := i + 3) (x := xs (i + 3)) S I hX hbl (by omega) (nI_add i 3) (by omega) rfl dL_law_123 ?_
          refine lv_aload_n hx hb dL_law_124 rfl (lv_at hl 5 rfl) ?_
          refine lv_iload hx hb dL_law_125 (lv_at hl 1 rfl) ?_
          refine lv_iconst (v := 4) hx hb dL_law_127 (by decide) ?_
          refine lv_iadd hx hb dL_law_128 ?_
          refine k_scr (j := i + 4) (x := xs (i + 4)) S I hX hbl (by omega) (nI_add i 4) (by omega) rfl dL_law_129 ?_
          refine lv_aload_n hx hb dL_law_130 rfl (lv_at hl 5 rfl) ?_
          refine lv_iload hx hb dL_law_131 (lv_at hl 1 rfl) ?_
          refine lv_iconst (v := 5) hx hb dL_law_133 (by decide) ?_
          refine lv_iadd hx hb dL_law_134 ?_
          refine k_scr (j := i + 5) (x := xs (i + 5)) S I hX hbl (by omega) (nI_add i 5) (by omega) rfl dL_law_135 ?_
          have I := I.sub (w1 := mdW bd cy C (N, M) rn o2 c2 (rgW ad cy C N T rn ([(od, .inl (cy 13, 1, .inr (.inl fo)))]))) [13, 14, 15, 16, 17, 18, 19, 20, 21, 22, 0, 1, 2, 3, 4, 5, 6, 7, 8, 9, 10, 11, 12, 23] rfl rfl rfl
          refine k_Vi (q0 := 0) (As := [.int (xs (i + 1)), .int (xs (i + 2)), .int (xs (i + 3)), .int (xs (i + 4)), .int (xs (i + 5))]) (rest := []) (w1 := mdW bd cy C (N, M) rn o2 1 (rgW ad cy C N T rn ([(od, .inl (cy 13, 1, .inr (.inl fo)))]))) (G := 0) S I (c_mset0 l D cy _ bd C N M rn o2 c2 (rgW ad cy C N T rn ([(od, .inl (cy 13, 1, .inr (.inl fo)))])) (xs (i + 1)) (xs (i + 2)) (xs (i + 3)) (xs (i + 4)) (xs (i + 5)) hx0) (cwV 5 hts (gx_L gL_law_X4_set) rfl rfl rfl (by decide +kernel) ⟨Nat.le_of_ble_eq_true rfl, Nat.le_of_ble_eq_true rfl⟩) rfl rfl rfl rfl hl.1 rfl (Nat.le_of_ble_eq_true rfl) dL_law_136 ⟨by show 100 + i + 1 + 0 ≤ 603072; omega, by show 20000 + 8 * i + 8 + 0 ≤ 7223402; omega⟩ (fun H locs I => ?_)
          refine lv_istore (lv' := [(6, .int 0), (5, .int 1), (4, .int (nI i)), (3, .ref od), (2, .ref (bd 0)), (1, .ref (ad 0)), (0, .ref b)]) hx hb dL_law_139 hl (by decide) rfl (fun ls hl => ?_)
          refine lv_aload_n hx hb dL_law_141 rfl (lv_at hl 4 rfl) ?_
          refine k_Vi (q0 := 0) (As := []) (rest := []) (w1 := mdW bd cy C (N, M) rn o2 1 (rgW ad cy C N T rn ([(od, .inl (cy 13, 1, .inr (.inl fo)))]))) (G := 1) S I (c_thrown l D cy _ bd C (N, M).1 (N, M).2 rn o2 1 (rgW ad cy C N T rn ([(od, .inl (cy 13, 1, .inr (.inl fo)))]))) (cwV 0 hts (gx_L gL_law_X4_thrown) rfl rfl rfl (by decide +kernel) ⟨Nat.le_of_ble_eq_true rfl, Nat.le_of_ble_eq_true rfl⟩) rfl rfl rfl rfl hl.1 rfl (Nat.le_of_ble_eq_true rfl) dL_law_142 ⟨by show 100 + i + 1 + 0 + 0 ≤ 603072; omega, by show 20000 + 8 * i + 8 + 0 + 0 ≤ 7223402; omega⟩ (fun H locs I => ?_)
          have I := I.sub (w1 := rgW ad cy C N T rn (mdW bd cy C (N, M) rn o2 1 ([(od, .inl (cy 13, 1, .inr (.inl fo)))]))) [10, 11, 12, 13, 14, 15, 16, 17, 18, 19, 20, 21, 22, 0, 1, 2, 3, 4, 5, 6, 7, 8, 9, 23] rfl rfl rfl
          refine lv_iload hx hb dL_law_145 (lv_at hl 1 rfl) ?_
          refine lv_icmp_eq (tgt := 152) hx hb dL_law_147 (by decide) (fun c_147 => ?_) (fun c_147 => ?_)
          · refine lv_iload hx hb dL_law_152 (lv_at hl 1 rfl) ?_
            refine lv_if_ne (tgt := 169) hx hb dL_law_154 (by decide) (fun c_154 => ?_) (fun c_154 => ?_)
            · refine lv_goto (tgt := 363) hx hb dL_law_169 (by decide) ?_
              refine lv_iinc (v := (nI (i + 6))) (lv' := [(4, .int (nI (i + 6))), (6, .int 0), (5, .int 1), (3, .ref od), (2, .ref (bd 0)), (1, .ref (ad 0)), (0, .ref b)]) hx hb dL_law_363 hl (k := 2) rfl (nI_add i 6) (by decide) rfl (fun ls hl => ?_)
              refine lv_goto (tgt := 23) hx hb dL_law_366 (by decide) ?_
              refine W.widen (k := 100 + (i + 6)) (n := 20000 + 8 * (i + 6)) (by omega) (by omega) ?_
              exact ih (i + 6) (by omega) (by omega) C N T (N, M).2 rn o2 1 fo hI _ _ I ls (lv_sub hl [0, 3, 4, 5, 6] rfl)
            · exact absurd c_154 (by decide)
          · exact absurd rfl c_147
        · obtain ⟨k, hk, ek⟩ := isL_of hx0
          refine lv_aload_n hx hb dL_law_68 rfl (lv_at hl 3 rfl) ?_
          refine lv_aload_n hx hb dL_law_69 rfl (lv_at hl 4 rfl) ?_
          refine lv_iload hx hb dL_law_70 (lv_at hl 0 rfl) ?_
          refine lv_iconst (v := 1) hx hb dL_law_72 (by decide) ?_
          refine lv_iadd hx hb dL_law_73 ?_
          refine k_scr (j := i + 1) (x := nI k) S I hX hbl (by omega) (nI_add i 1) (by omega) ek dL_law_74 ?_
          refine lv_aload_n hx hb dL_law_75 rfl (lv_at hl 4 rfl) ?_
          refine lv_iload hx hb dL_law_76 (lv_at hl 0 rfl) ?_
          refine lv_iconst (v := 2) hx hb dL_law_78 (by decide) ?_
          refine lv_iadd hx hb dL_law_79 ?_
          refine k_scr (j := i + 2) (x := xs (i + 2)) S I hX hbl (by omega) (nI_add i 2) (by omega) rfl dL_law_80 ?_
          refine lv_aload_n hx hb dL_law_81 rfl (lv_at hl 4 rfl) ?_
          refine lv_iload hx hb dL_law_82 (lv_at hl 0 rfl) ?_
          refine lv_iconst (v := 3) hx hb dL_law_84 (by decide) ?_
          refine lv_iadd hx hb dL_law_85 ?_
          refine k_scr (j := i + 3) (x := xs (i + 3)) S I hX hbl (by omega) (nI_add i 3) (by omega) rfl dL_law_86 ?_
          refine lv_aload_n hx hb dL_law_87 rfl (lv_at hl 4 rfl) ?_
          refine lv_iload hx hb dL_law_88 (lv_at hl 0 rfl) ?_
          refine lv_iconst (v := 4) hx hb dL_law_90 (by decide) ?_
          refine lv_iadd hx hb dL_law_91 ?_
          refine k_scr (j := i + 4) (x := xs (i + 4)) S I hX hbl (by omega) (nI_add i 4) (by omega) rfl dL_law_92 ?_
          refine lv_aload_n hx hb dL_law_93 rfl (lv_at hl 4 rfl) ?_
          refine lv_iload hx hb dL_law_94 (lv_at hl 0 rfl) ?_
          refine lv_iconst (v := 5) hx hb dL_law_96 (by decide) ?_
          refine lv_iadd hx hb dL_law_97 ?_
          refine k_scr (j := i + 5) (x := xs (i + 5)) S I hX hbl (by omega) (nI_add i 5) (by omega) rfl dL_law_98 ?_
          refine lv_aload_n hx hb dL_law_99 rfl (lv_at hl 1 rfl) ?_
          refine k_SWi (As := [.ref (ad 0), .int (nI k), .int (xs (i + 2)), .int (xs (i + 3)), .int (xs (i + 4)), .int (xs (i + 5)), .ref od]) (rest := []) (w1 := rgW ad cy (upd C.1 k (xs (i + 2)), upd C.2.1 k (xs (i + 3)), upd C.2.2.1 k (xs (i + 4)), upd C.2.2.2 k (xs (i + 5))) N T rn (mdW bd cy C (N, M) rn o2 c2 ([(od, .inl (cy 13, 1, .inr (.inl (vp_updL fo 0 ((C.2.2.2 k).toInt64)))))]))) (G := 0) S I (c_Lset1 l hfl D cy _ ad bd C N T rn C (N, M) rn o2 c2 od fo k hk (xs (i + 2)) (xs (i + 3)) (xs (i + 4)) (xs (i + 5))) (vx_cwSW 7 hts (gx_L gL_law_L_set) rfl rfl rfl (by decide +kernel) ⟨(Nat.le_of_ble_eq_true rfl), (Nat.le_of_ble_eq_true rfl)⟩) rfl hl.1 rfl (Nat.le_of_ble_eq_true rfl) dL_law_100 ⟨by show 100 + i + 0 ≤ 603072; omega, by show 20000 + 8 * i + 0 ≤ 7223402; omega⟩ (fun H locs I => ?_)
          refine lv_istore (lv' := [(5, .int 0), (4, .int (nI i)), (3, .ref od), (2, .ref (bd 0)), (1, .ref (ad 0)), (0, .ref b)]) hx hb dL_law_103 hl (by decide) rfl (fun ls hl => ?_)
          refine lv_aload_n hx hb dL_law_105 rfl (lv_at hl 3 rfl) ?_
          refine lv_aload_n hx hb dL_law_106 rfl (lv_at hl 5 rfl) ?_
          refine lv_iload hx hb dL_law_107 (lv_at hl 1 rfl) ?_
          refine lv_iconst (v := 1) hx hb dL_law_109 (by decide) ?_
          refine lv_iadd hx hb dL_law_110 ?_
          refine k_scr (j := i + 1) (x := nI k) S I hX hbl (by omega) (nI_add i 1) (by omega) ek dL_law_111 ?_
          refine lv_aload_n hx hb dL_law_112 rfl (lv_at hl 5 rfl) ?_
          refine lv_iload hx hb dL_law_113 (lv_at hl 1 rfl) ?_
          refine lv_iconst (v := 2) hx hb dL_law_115 (by decide) ?_
          refine lv_iadd hx hb dL_law_116 ?_
          refine k_scr (j := i + 2) (x := xs (i + 2)) S I hX hbl (by omega) (nI_add i 2) (by omega) rfl dL_law_117 ?_
          refine lv_aload_n hx hb dL_law_118 rfl (lv_at hl 5 rfl) ?_
          refine lv_iload hx hb dL_law_119 (lv_at hl 1 rfl) ?_
          refine lv_iconst (v := 3) hx hb dL_law_121 (by decide) ?_
          refine lv_iadd hx hb dL_law_122 ?_
          refine k_scr (j := i + 3) (x := xs (i + 3)) S I hX hbl (by omega) (nI_add i 3) (by omega) rfl dL_law_123 ?_
          refine lv_aload_n hx hb dL_law_124 rfl (lv_at hl 5 rfl) ?_
          refine lv_iload hx hb dL_law_125 (lv_at hl 1 rfl) ?_
          refine lv_iconst (v := 4) hx hb dL_law_127 (by decide) ?_
          refine lv_iadd hx hb dL_law_128 ?_
          refine k_scr (j := i + 4) (x := xs (i + 4)) S I hX hbl (by omega) (nI_add i 4) (by omega) rfl dL_law_129 ?_
          refine lv_aload_n hx hb dL_law_130 rfl (lv_at hl 5 rfl) ?_
          refine lv_iload hx hb dL_law_131 (lv_at hl 1 rfl) ?_
          refine lv_iconst (v := 5) hx hb dL_law_133 (by decide) ?_
          refine lv_iadd hx hb dL_law_134 ?_
          refine k_scr (j := i + 5) (x := xs (i + 5)) S I hX hbl (by omega) (nI_add i 5) (by omega) rfl dL_law_135 ?_
          have I := I.sub (w1 := mdW bd cy C (N, M) rn o2 c2 (rgW ad cy (upd C.1 k (xs (i + 2)), upd C.2.1 k (xs (i + 3)), upd C.2.2.1 k (xs (i + 4)), upd C.2.2.2 k (xs (i + 5))) N T rn ([(od, .inl (cy 13, 1, .inr (.inl (vp_updL fo 0 ((C.2.2.2 k).toInt64)))))]))) [13, 14, 15, 16, 17, 18, 19, 20, 21, 22, 0, 1, 2, 3, 4, 5, 6, 7, 8, 9, 10, 11, 12, 23] rfl rfl rfl
          refine k_Vi (q0 := 0) (As := [.int (nI k), .int (xs (i + 2)), .int (xs (i + 3)), .int (xs (i + 4)), .int (xs (i + 5))]) (rest := []) (w1 := mdW bd cy (upd C.1 k (xs (i + 2)), upd C.2.1 k (xs (i + 3)), upd C.2.2.1 k (xs (i + 4)), upd C.2.2.2 k (xs (i + 5))) (N, M) rn o2 0 (rgW ad cy (upd C.1 k (xs (i + 2)), upd C.2.1 k (xs (i + 3)), upd C.2.2.1 k (xs (i + 4)), upd C.2.2.2 k (xs (i + 5))) N T rn ([(od, .inl (cy 13, 1, .inr (.inl (vp_updL fo 0 ((C.2.2.2 k).toInt64)))))]))) (G := (C.2.2.2 k)) S I (c_mset1 l D cy _ bd C N M rn o2 c2 (rgW ad cy (upd C.1 k (xs (i + 2)), upd C.2.1 k (xs (i + 3)), upd C.2.2.1 k (xs (i + 4)), upd C.2.2.2 k (xs (i + 5))) N T rn ([(od, .inl (cy 13, 1, .inr (.inl (vp_updL fo 0 ((C.2.2.2 k).toInt64)))))])) k hk (xs (i + 2)) (xs (i + 3)) (xs (i + 4)) (xs (i + 5))) (cwV 5 hts (gx_L gL_law_X4_set) rfl rfl rfl (by decide +kernel) ⟨Nat.le_of_ble_eq_true rfl, Nat.le_of_ble_eq_true rfl⟩) rfl rfl rfl rfl hl.1 rfl (Nat.le_of_ble_eq_true rfl) dL_law_136 ⟨by show 100 + i + 0 + 0 ≤ 603072; omega, by show 20000 + 8 * i + 0 + 0 ≤ 7223402; omega⟩ (fun H locs I => ?_)
          refine lv_istore (lv' := [(6, .int (C.2.2.2 k)), (5, .int 0), (4, .int (nI i)), (3, .ref od), (2, .ref (bd 0)), (1, .ref (ad 0)), (0, .ref b)]) hx hb dL_law_139 hl (by decide) rfl (fun ls hl => ?_)
          refine lv_aload_n hx hb dL_law_141 rfl (lv_at hl 4 rfl) ?_
          refine k_Vi (q0 := 0) (As := []) (rest := []) (w1 := mdW bd cy (upd C.1 k (xs (i + 2)), upd C.2.1 k (xs (i + 3)), upd C.2.2.1 k (xs (i + 4)), upd C.2.2.2 k (xs (i + 5))) (N, M) rn o2 0 (rgW ad cy (upd C.1 k (xs (i + 2)), upd C.2.1 k (xs (i + 3)), upd C.2.2.1 k (xs (i + 4)), upd C.2.2.2 k (xs (i + 5))) N T rn ([(od, .inl (cy 13, 1, .inr (.inl (vp_updL fo 0 ((C.2.2.2 k).toInt64)))))]))) (G := 0) S I (c_thrown l D cy _ bd (upd C.1 k (xs (i + 2)), upd C.2.1 k (xs (i + 3)), upd C.2.2.1 k (xs (i + 4)), upd C.2.2.2 k (xs (i + 5))) (N, M).1 (N, M).2 rn o2 0 (rgW ad cy (upd C.1 k (xs (i + 2)), upd C.2.1 k (xs (i + 3)), upd C.2.2.1 k (xs (i + 4)), upd C.2.2.2 k (xs (i + 5))) N T rn ([(od, .inl (cy 13, 1, .inr (.inl (vp_updL fo 0 ((C.2.2.2 k).toInt64)))))]))) (cwV 0 hts (gx_L gL_law_X4_thrown) rfl rfl rfl (by decide +kernel) ⟨Nat.le_of_ble_eq_true rfl, Nat.le_of_ble_eq_true rfl⟩) rfl rfl rfl rfl hl.1 rfl (Nat.le_of_ble_eq_true rfl) dL_law_142 ⟨by show 100 + i + 0 + 0 + 0 ≤ 603072; omega, by show 20000 + 8 * i + 0 + 0 + 0 ≤ 7223402; omega⟩ (fun H locs I => ?_)
          have I := I.sub (w1 := rgW ad cy (upd C.1 k (xs (i + 2)), upd C.2.1 k (xs (i + 3)), upd C.2.2.1 k (xs (i + 4)), upd C.2.2.2 k (xs (i + 5))) N T rn (mdW bd cy (upd C.1 k (xs (i + 2)), upd C.2.1 k (xs (i + 3)), upd C.2.2.1 k (xs (i + 4)), upd C.2.2.2 k (xs (i + 5))) (N, M) rn o2 0 ([(od, .inl (cy 13, 1, .inr (.inl (vp_updL fo 0 ((C.2.2.2 k).toInt64)))))]))) [10, 11, 12, 13, 14, 15, 16, 17, 18, 19, 20, 21, 22, 0, 1, 2, 3, 4, 5, 6, 7, 8, 9, 23] rfl rfl rfl
          refine lv_iload hx hb dL_law_145 (lv_at hl 1 rfl) ?_
          refine lv_icmp_eq (tgt := 152) hx hb dL_law_147 (by decide) (fun c_147 => ?_) (fun c_147 => ?_)
          · refine lv_iload hx hb dL_law_152 (lv_at hl 1 rfl) ?_
            refine lv_if_ne (tgt := 169) hx hb dL_law_154 (by decide) (fun c_154 => ?_) (fun c_154 => ?_)
            · exact absurd rfl c_154
            · refine lv_aload_n hx hb dL_law_157 rfl (lv_at hl 3 rfl) ?_
              refine lv_iconst (v := 0) hx hb dL_law_158 (by decide) ?_
              refine k_lald (q0 := 23) (t0 := 13) (j := 0) (n := 1) (x := (C.2.2.2 k).toInt64) S I rfl rfl (by decide) (by decide) rfl rfl dL_law_159 ?_
              refine lv_iload hx hb dL_law_160 (lv_at hl 0 rfl) ?_
              refine lv_i2l (v := (C.2.2.2 k).toInt64) hx hb dL_law_162 rfl ?_
              refine W.lcmp hx hb dL_law_163 ?_
              refine W.eq (congrArg (fun z => F0 m 164 ls [.int z]) ((lg_cmp_eq _ _).mpr rfl)) ?_
              refine lv_if_eq (tgt := 169) hx hb dL_law_164 (by decide) (fun c_164 => ?_) (fun c_164 => ?_)
              · refine lv_goto (tgt := 363) hx hb dL_law_169 (by decide) ?_
                refine lv_iinc (v := (nI (i + 6))) (lv' := [(4, .int (nI (i + 6))), (6, .int (C.2.2.2 k)), (5, .int 0), (3, .ref od), (2, .ref (bd 0)), (1, .ref (ad 0)), (0, .ref b)]) hx hb dL_law_363 hl (k := 2) rfl (nI_add i 6) (by decide) rfl (fun ls hl => ?_)
                refine lv_goto (tgt := 23) hx hb dL_law_366 (by decide) ?_
                refine W.widen (k := 100 + (i + 6)) (n := 20000 + 8 * (i + 6)) (by omega) (by omega) ?_
                exact ih (i + 6) (by omega) (by omega) (upd C.1 k (xs (i + 2)), upd C.2.1 k (xs (i + 3)), upd C.2.2.1 k (xs (i + 4)), upd C.2.2.2 k (xs (i + 5))) N T (N, M).2 rn o2 0 (vp_updL fo 0 ((C.2.2.2 k).toInt64)) hI _ _ I ls (lv_sub hl [0, 3, 4, 5, 6] rfl)
              · exact absurd rfl c_164
          · exact absurd rfl c_147
      · refine lv_tableIn (tgt := 172) hx hb dL_law_39 (by rw [c_39]; decide) (by rw [c_39]; decide) (by rw [c_39]; rfl) (by decide) ?_
        by_cases hx0 : isL (xs (i + 1)) = 0
        · have hh := hx0
          refine lv_aload_n hx hb dL_law_172 rfl (lv_at hl 3 rfl) ?_
          refine lv_aload_n hx hb dL_law_173 rfl (lv_at hl 4 rfl) ?_
          refine lv_iload hx hb dL_law_174 (lv_at hl 0 rfl) ?_
          refine lv_iconst (v := 1) hx hb dL_law_176 (by decide) ?_
          refine lv_iadd hx hb dL_law_177 ?_
          refine k_scr (j := i + 1) (x := xs (i + 1)) S I hX hbl (by omega) (nI_add i 1) (by omega) rfl dL_law_178 ?_
          refine lv_aload_n hx hb dL_law_179 rfl (lv_at hl 4 rfl) ?_
          refine lv_iload hx hb dL_law_180 (lv_at hl 0 rfl) ?_
          refine lv_iconst (v := 2) hx hb dL_law_182 (by decide) ?_
          refine lv_iadd hx hb dL_law_183 ?_
          refine k_scr (j := i + 2) (x := xs (i + 2)) S I hX hbl (by omega) (nI_add i 2) (by omega) rfl dL_law_184 ?_
          refine lv_aload_n hx hb dL_law_185 rfl (lv_at hl 4 rfl) ?_
          refine lv_iload hx hb dL_law_186 (lv_at hl 0 rfl) ?_
          refine lv_iconst (v := 3) hx hb dL_law_188 (by decide) ?_
          refine lv_iadd hx hb dL_law_189 ?_
          refine k_scr (j := i + 3) (x := xs (i + 3)) S I hX hbl (by omega) (nI_add i 3) (by omega) rfl dL_law_190 ?_
          refine lv_aload_n hx hb dL_law_191 rfl (lv_at hl 1 rfl) ?_
          refine k_SWi (As := [.ref (ad 0), .int (xs (i + 1)), .int (xs (i + 2)), .int (xs (i + 3)), .ref od]) (rest := []) (w1 := rgW ad cy C N T rn (mdW bd cy C (N, M) rn o2 c2 ([(od, .inl (cy 13, 1, .inr (.inl fo)))]))) (G := 5) S I (c_Lrun0 l hfl D cy _ ad bd C N T rn C (N, M) rn o2 c2 od fo (xs (i + 1)) (xs (i + 2)) (xs (i + 3)) hx0) (vx_cwSW 5 hts (gx_S gL_law_L_run xw_good) rfl rfl rfl (by decide +kernel) ⟨(Nat.le_of_ble_eq_true rfl), (Nat.le_of_ble_eq_true rfl)⟩) rfl hl.1 rfl (Nat.le_of_ble_eq_true rfl) dL_law_192 ⟨by show 100 + i + 1 ≤ 603072; omega, by show 20000 + 8 * i + 8 ≤ 7223402; omega⟩ (fun H locs I => ?_)
          refine lv_istore (lv' := [(5, .int 5), (4, .int (nI i)), (3, .ref od), (2, .ref (bd 0)), (1, .ref (ad 0)), (0, .ref b)]) hx hb dL_law_195 hl (by decide) rfl (fun ls hl => ?_)
          refine lv_aload_n hx hb dL_law_197 rfl (lv_at hl 3 rfl) ?_
          refine lv_aload_n hx hb dL_law_198 rfl (lv_at hl 5 rfl) ?_
          refine lv_iload hx hb dL_law_199 (lv_at hl 1 rfl) ?_
          refine lv_iconst (v := 1) hx hb dL_law_201 (by decide) ?_
          refine lv_iadd hx hb dL_law_202 ?_
          refine k_scr (j := i + 1) (x := xs (i + 1)) S I hX hbl (by omega) (nI_add i 1) (by omega) rfl dL_law_203 ?_
          refine lv_aload_n hx hb dL_law_204 rfl (lv_at hl 5 rfl) ?_
          refine lv_iload hx hb dL_law_205 (lv_at hl 1 rfl) ?_
          refine lv_iconst (v := 2) hx hb dL_law_207 (by decide) ?_
          refine lv_iadd hx hb dL_law_208 ?_
          refine k_scr (j := i + 2) (x := xs (i + 2)) S I hX hbl (by omega) (nI_add i 2) (by omega) rfl dL_law_209 ?_
          refine lv_aload_n hx hb dL_law_210 rfl (lv_at hl 5 rfl) ?_
          refine lv_iload hx hb dL_law_211 (lv_at hl 1 rfl) ?_
          refine lv_iconst (v := 3) hx hb dL_law_213 (by decide) ?_
          refine lv_iadd hx hb dL_law_214 ?_
          refine k_scr (j := i + 3) (x := xs (i + 3)) S I hX hbl (by omega) (nI_add i 3) (by omega) rfl dL_law_215 ?_
          have I := I.sub (w1 := mdW bd cy C (N, M) rn o2 c2 (rgW ad cy C N T rn ([(od, .inl (cy 13, 1, .inr (.inl fo)))]))) [13, 14, 15, 16, 17, 18, 19, 20, 21, 22, 0, 1, 2, 3, 4, 5, 6, 7, 8, 9, 10, 11, 12, 23] rfl rfl rfl
          refine k_Vl (q0 := 0) (As := [.int (xs (i + 1)), .int (xs (i + 2)), .int (xs (i + 3))]) (rest := []) (w1 := mdW bd cy C (N, M) rn o2 5 (rgW ad cy C N T rn ([(od, .inl (cy 13, 1, .inr (.inl fo)))]))) (G := 0) S I (c_mrun0 l D cy _ bd C N M rn o2 c2 (rgW ad cy C N T rn ([(od, .inl (cy 13, 1, .inr (.inl fo)))])) (xs (i + 1)) (xs (i + 2)) (xs (i + 3)) hx0) (cwV 3 hts (gx_L gL_law_X4_run) rfl rfl rfl (by decide +kernel) ⟨Nat.le_of_ble_eq_true rfl, Nat.le_of_ble_eq_true rfl⟩) rfl rfl rfl rfl hl.1 rfl (Nat.le_of_ble_eq_true rfl) dL_law_216 ⟨by show 100 + i + 1 + 0 ≤ 603072; omega, by show 20000 + 8 * i + 8 + 0 ≤ 7223402; omega⟩ (fun H locs I => ?_)
          refine lv_lstore (lv' := [(6, .long 0), (5, .int 5), (4, .int (nI i)), (3, .ref od), (2, .ref (bd 0)), (1, .ref (ad 0)), (0, .ref b)]) hx hb dL_law_219 hl (by decide) rfl (fun ls hl => ?_)
          refine lv_aload_n hx hb dL_law_221 rfl (lv_at hl 4 rfl) ?_
          refine k_Vi (q0 := 0) (As := []) (rest := []) (w1 := mdW bd cy C (N, M) rn o2 5 (rgW ad cy C N T rn ([(od, .inl (cy 13, 1, .inr (.inl fo)))]))) (G := 5) S I (c_thrown l D cy _ bd C (N, M).1 (N, M).2 rn o2 5 (rgW ad cy C N T rn ([(od, .inl (cy 13, 1, .inr (.inl fo)))]))) (cwV 0 hts (gx_L gL_law_X4_thrown) rfl rfl rfl (by decide +kernel) ⟨Nat.le_of_ble_eq_true rfl, Nat.le_of_ble_eq_true rfl⟩) rfl rfl rfl rfl hl.1 rfl (Nat.le_of_ble_eq_true rfl) dL_law_222 ⟨by show 100 + i + 1 + 0 + 0 ≤ 603072; omega, by show 20000 + 8 * i + 8 + 0 + 0 ≤ 7223402; omega⟩ (fun H locs I => ?_)
          have I := I.sub (w1 := rgW ad cy C N T rn (mdW bd cy C (N, M) rn o2 5 ([(od, .inl (cy 13, 1, .inr (.inl fo)))]))) [10, 11, 12, 13, 14, 15, 16, 17, 18, 19, 20, 21, 22, 0, 1, 2, 3, 4, 5, 6, 7, 8, 9, 23] rfl rfl rfl
          refine lv_iload hx hb dL_law_225 (lv_at hl 1 rfl) ?_
          refine lv_icmp_eq (tgt := 232) hx hb dL_law_227 (by decide) (fun c_227 => ?_) (fun c_227 => ?_)
          · refine lv_iload hx hb dL_law_232 (lv_at hl 1 rfl) ?_
            refine lv_if_ne (tgt := 248) hx hb dL_law_234 (by decide) (fun c_234 => ?_) (fun c_234 => ?_)
            · refine lv_goto (tgt := 363) hx hb dL_law_248 (by decide) ?_
              refine lv_iinc (v := (nI (i + 6))) (lv' := [(4, .int (nI (i + 6))), (6, .long 0), (5, .int 5), (3, .ref od), (2, .ref (bd 0)), (1, .ref (ad 0)), (0, .ref b)]) hx hb dL_law_363 hl (k := 2) rfl (nI_add i 6) (by decide) rfl (fun ls hl => ?_)
              refine lv_goto (tgt := 23) hx hb dL_law_366 (by decide) ?_
              refine W.widen (k := 100 + (i + 6)) (n := 20000 + 8 * (i + 6)) (by omega) (by omega) ?_
              exact ih (i + 6) (by omega) (by omega) C N T (N, M).2 rn o2 5 fo hI _ _ I ls (lv_sub hl [0, 3, 4, 5, 6] rfl)
            · exact absurd c_234 (by decide)
          · exact absurd rfl c_227
        · obtain ⟨k, hk, ek⟩ := isL_of hx0
          obtain ⟨t, ⟨N1, M1⟩, hR, hv, hc1, hn1⟩ := sim_run C k hk (xs (i + 2)) (xs (i + 3)) N T M
          have eN : N1 = (dlF C k (gdF C k) (xs (i + 2)) (xs (i + 3)) ((N.1, 0), dpT T)).1.1 := hv.1
          subst eN
          have hch : chM M1 (dlF C k (gdF C k) (xs (i + 2)) (xs (i + 3)) ((N.1, 0), dpT T)).1.2.1 (dlF C k (gdF C k) (xs (i + 2)) (xs (i + 3)) ((N.1, 0), dpT T)).1.2.2.1 (dlF C k (gdF C k) (xs (i + 2)) (xs (i + 3)) ((N.1, 0), dpT T)).1.2.2.2 t := hv.2.1
          have hans : (dlF C k (gdF C k) (xs (i + 2)) (xs (i + 3)) ((N.1, 0), dpT T)).1.2.2.2 = 0 → M1.2.2.2.2.1 = (dlF C k (gdF C k) (xs (i + 2)) (xs (i + 3)) ((N.1, 0), dpT T)).2 := hv.2.2.1
          have hkk : 0 < (dlF C k (gdF C k) (xs (i + 2)) (xs (i + 3)) ((N.1, 0), dpT T)).1.2.2.2 → kOk (kdT (dlF C k (gdF C k) (xs (i + 2)) (xs (i + 3)) ((N.1, 0), dpT T)).1.2) := hv.2.2.2.1
          have h7 : (dlF C k (gdF C k) (xs (i + 2)) (xs (i + 3)) ((N.1, 0), dpT T)).1.2.2.2 ≤ 7 := hv.2.2.2.2
          have hc1 : M1.2.2.2.1 ≤ 4000 := hc1
          by_cases hz : (dlF C k (gdF C k) (xs (i + 2)) (xs (i + 3)) ((N.1, 0), dpT T)).1.2.2.2 = 0
          · have hkd : kdT (dlF C k (gdF C k) (xs (i + 2)) (xs (i + 3)) ((N.1, 0), dpT T)).1.2 = 0 := if_neg (by omega)
            have et : t = -1 := by rw [hz] at hch; exact hch
            subst et
            refine lv_aload_n hx hb dL_law_172 rfl (lv_at hl 3 rfl) ?_
            refine lv_aload_n hx hb dL_law_173 rfl (lv_at hl 4 rfl) ?_
            refine lv_iload hx hb dL_law_174 (lv_at hl 0 rfl) ?_
            refine lv_iconst (v := 1) hx hb dL_law_176 (by decide) ?_
            refine lv_iadd hx hb dL_law_177 ?_
            refine k_scr (j := i + 1) (x := nI k) S I hX hbl (by omega) (nI_add i 1) (by omega) ek dL_law_178 ?_
            refine lv_aload_n hx hb dL_law_179 rfl (lv_at hl 4 rfl) ?_
            refine lv_iload hx hb dL_law_180 (lv_at hl 0 rfl) ?_
            refine lv_iconst (v := 2) hx hb dL_law_182 (by decide) ?_
            refine lv_iadd hx hb dL_law_183 ?_
            refine k_scr (j := i + 2) (x := xs (i + 2)) S I hX hbl (by omega) (nI_add i 2) (by omega) rfl dL_law_184 ?_
            refine lv_aload_n hx hb dL_law_185 rfl (lv_at hl 4 rfl) ?_
            refine lv_iload hx hb dL_law_186 (lv_at hl 0 rfl) ?_
            refine lv_iconst (v := 3) hx hb dL_law_188 (by decide) ?_
            refine lv_iadd hx hb dL_law_189 ?_
            refine k_scr (j := i + 3) (x := xs (i + 3)) S I hX hbl (by omega) (nI_add i 3) (by omega) rfl dL_law_190 ?_
            refine lv_aload_n hx hb dL_law_191 rfl (lv_at hl 1 rfl) ?_
            refine k_SWi (As := [.ref (ad 0), .int (nI k), .int (xs (i + 2)), .int (xs (i + 3)), .ref od]) (rest := []) (w1 := rgW ad cy C ((dlF C k (gdF C k) (xs (i + 2)) (xs (i + 3)) ((N.1, 0), dpT T)).1.1) ((dlF C k (gdF C k) (xs (i + 2)) (xs (i + 3)) ((N.1, 0), dpT T)).1.2) (rn + 1) (mdW bd cy C (N, M) rn o2 c2 ([(od, .inl (cy 13, 1, .inr (.inl (vp_updL fo 0 ((dlF C k (gdF C k) (xs (i + 2)) (xs (i + 3)) ((N.1, 0), dpT T)).2)))))]))) (G := 0) S I (c_Lrun1 l hfl D cy _ ad bd C N T rn C (N, M) rn o2 c2 od fo k hk (xs (i + 2)) (xs (i + 3)) hkd) (vx_cwSW 5 hts (gx_L gL_law_L_run) rfl rfl rfl (by decide +kernel) ⟨(Nat.le_of_ble_eq_true rfl), (Nat.le_of_ble_eq_true rfl)⟩) rfl hl.1 rfl (Nat.le_of_ble_eq_true rfl) dL_law_192 ⟨by show 100 + i + 0 ≤ 603072; omega, by show 20000 + 8 * i + 0 ≤ 7223402; omega⟩ (fun H locs I => ?_)
            refine lv_istore (lv' := [(5, .int 0), (4, .int (nI i)), (3, .ref od), (2, .ref (bd 0)), (1, .ref (ad 0)), (0, .ref b)]) hx hb dL_law_195 hl (by decide) rfl (fun ls hl => ?_)
            refine lv_aload_n hx hb dL_law_197 rfl (lv_at hl 3 rfl) ?_
            refine lv_aload_n hx hb dL_law_198 rfl (lv_at hl 5 rfl) ?_
            refine lv_iload hx hb dL_law_199 (lv_at hl 1 rfl) ?_
            refine lv_iconst (v := 1) hx hb dL_law_201 (by decide) ?_
            refine lv_iadd hx hb dL_law_202 ?_
            refine k_scr (j := i + 1) (x := nI k) S I hX hbl (by omega) (nI_add i 1) (by omega) ek dL_law_203 ?_
            refine lv_aload_n hx hb dL_law_204 rfl (lv_at hl 5 rfl) ?_
            refine lv_iload hx hb dL_law_205 (lv_at hl 1 rfl) ?_
            refine lv_iconst (v := 2) hx hb dL_law_207 (by decide) ?_
            refine lv_iadd hx hb dL_law_208 ?_
            refine k_scr (j := i + 2) (x := xs (i + 2)) S I hX hbl (by omega) (nI_add i 2) (by omega) rfl dL_law_209 ?_
            refine lv_aload_n hx hb dL_law_210 rfl (lv_at hl 5 rfl) ?_
            refine lv_iload hx hb dL_law_211 (lv_at hl 1 rfl) ?_
            refine lv_iconst (v := 3) hx hb dL_law_213 (by decide) ?_
            refine lv_iadd hx hb dL_law_214 ?_
            refine k_scr (j := i + 3) (x := xs (i + 3)) S I hX hbl (by omega) (nI_add i 3) (by omega) rfl dL_law_215 ?_
            have I := I.sub (w1 := mdW bd cy C (N, M) rn o2 c2 (rgW ad cy C ((dlF C k (gdF C k) (xs (i + 2)) (xs (i + 3)) ((N.1, 0), dpT T)).1.1) ((dlF C k (gdF C k) (xs (i + 2)) (xs (i + 3)) ((N.1, 0), dpT T)).1.2) (rn + 1) ([(od, .inl (cy 13, 1, .inr (.inl (vp_updL fo 0 ((dlF C k (gdF C k) (xs (i + 2)) (xs (i + 3)) ((N.1, 0), dpT T)).2)))))]))) [13, 14, 15, 16, 17, 18, 19, 20, 21, 22, 0, 1, 2, 3, 4, 5, 6, 7, 8, 9, 10, 11, 12, 23] rfl rfl rfl
            refine k_Vl (q0 := 0) (As := [.int (nI k), .int (xs (i + 2)), .int (xs (i + 3))]) (rest := []) (w1 := mdW bd cy C ((dlF C k (gdF C k) (xs (i + 2)) (xs (i + 3)) ((N.1, 0), dpT T)).1.1, M1) (rn + 1) (-1) 0 (rgW ad cy C ((dlF C k (gdF C k) (xs (i + 2)) (xs (i + 3)) ((N.1, 0), dpT T)).1.1) ((dlF C k (gdF C k) (xs (i + 2)) (xs (i + 3)) ((N.1, 0), dpT T)).1.2) (rn + 1) ([(od, .inl (cy 13, 1, .inr (.inl (vp_updL fo 0 ((dlF C k (gdF C k) (xs (i + 2)) (xs (i + 3)) ((N.1, 0), dpT T)).2)))))]))) (G := M1.2.2.2.2.1) S I (c_mrun1a l D cy _ bd C N M rn o2 c2 (rgW ad cy C ((dlF C k (gdF C k) (xs (i + 2)) (xs (i + 3)) ((N.1, 0), dpT T)).1.1) ((dlF C k (gdF C k) (xs (i + 2)) (xs (i + 3)) ((N.1, 0), dpT T)).1.2) (rn + 1) ([(od, .inl (cy 13, 1, .inr (.inl (vp_updL fo 0 ((dlF C k (gdF C k) (xs (i + 2)) (xs (i + 3)) ((N.1, 0), dpT T)).2)))))])) k hk (xs (i + 2)) (xs (i + 3)) ((dlF C k (gdF C k) (xs (i + 2)) (xs (i + 3)) ((N.1, 0), dpT T)).1.1, M1) hR) (cwV 3 hts (gx_L gL_law_X4_run) rfl rfl rfl (by decide +kernel) ⟨Nat.le_of_ble_eq_true rfl, Nat.le_of_ble_eq_true rfl⟩) rfl rfl rfl rfl hl.1 rfl (Nat.le_of_ble_eq_true rfl) dL_law_216 ⟨by show 100 + i + 0 + 0 ≤ 603072; omega, by show 20000 + 8 * i + 0 + 0 ≤ 7223402; omega⟩ (fun H locs I => ?_)
            refine lv_lstore (lv' := [(6, .long M1.2.2.2.2.1), (5, .int 0), (4, .int (nI i)), (3, .ref od), (2, .ref (bd 0)), (1, .ref (ad 0)), (0, .ref b)]) hx hb dL_law_219 hl (by decide) rfl (fun ls hl => ?_)
            refine lv_aload_n hx hb dL_law_221 rfl (lv_at hl 4 rfl) ?_
            refine k_Vi (q0 := 0) (As := []) (rest := []) (w1 := mdW bd cy C ((dlF C k (gdF C k) (xs (i + 2)) (xs (i + 3)) ((N.1, 0), dpT T)).1.1, M1) (rn + 1) (-1) 0 (rgW ad cy C ((dlF C k (gdF C k) (xs (i + 2)) (xs (i + 3)) ((N.1, 0), dpT T)).1.1) ((dlF C k (gdF C k) (xs (i + 2)) (xs (i + 3)) ((N.1, 0), dpT T)).1.2) (rn + 1) ([(od, .inl (cy 13, 1, .inr (.inl (vp_updL fo 0 ((dlF C k (gdF C k) (xs (i + 2)) (xs (i + 3)) ((N.1, 0), dpT T)).2)))))]))) (G := 0) S I (c_thrown l D cy _ bd C ((dlF C k (gdF C k) (xs (i + 2)) (xs (i + 3)) ((N.1, 0), dpT T)).1.1, M1).1 ((dlF C k (gdF C k) (xs (i + 2)) (xs (i + 3)) ((N.1, 0), dpT T)).1.1, M1).2 (rn + 1) (-1) 0 (rgW ad cy C ((dlF C k (gdF C k) (xs (i + 2)) (xs (i + 3)) ((N.1, 0), dpT T)).1.1) ((dlF C k (gdF C k) (xs (i + 2)) (xs (i + 3)) ((N.1, 0), dpT T)).1.2) (rn + 1) ([(od, .inl (cy 13, 1, .inr (.inl (vp_updL fo 0 ((dlF C k (gdF C k) (xs (i + 2)) (xs (i + 3)) ((N.1, 0), dpT T)).2)))))]))) (cwV 0 hts (gx_L gL_law_X4_thrown) rfl rfl rfl (by decide +kernel) ⟨Nat.le_of_ble_eq_true rfl, Nat.le_of_ble_eq_true rfl⟩) rfl rfl rfl rfl hl.1 rfl (Nat.le_of_ble_eq_true rfl) dL_law_222 ⟨by show 100 + i + 0 + 0 + 0 ≤ 603072; omega, by show 20000 + 8 * i + 0 + 0 + 0 ≤ 7223402; omega⟩ (fun H locs I => ?_)
            have I := I.sub (w1 := rgW ad cy C ((dlF C k (gdF C k) (xs (i + 2)) (xs (i + 3)) ((N.1, 0), dpT T)).1.1) ((dlF C k (gdF C k) (xs (i + 2)) (xs (i + 3)) ((N.1, 0), dpT T)).1.2) (rn + 1) (mdW bd cy C ((dlF C k (gdF C k) (xs (i + 2)) (xs (i + 3)) ((N.1, 0), dpT T)).1.1, M1) (rn + 1) (-1) 0 ([(od, .inl (cy 13, 1, .inr (.inl (vp_updL fo 0 ((dlF C k (gdF C k) (xs (i + 2)) (xs (i + 3)) ((N.1, 0), dpT T)).2)))))]))) [10, 11, 12, 13, 14, 15, 16, 17, 18, 19, 20, 21, 22, 0, 1, 2, 3, 4, 5, 6, 7, 8, 9, 23] rfl rfl rfl
            refine lv_iload hx hb dL_law_225 (lv_at hl 1 rfl) ?_
            refine lv_icmp_eq (tgt := 232) hx hb dL_law_227 (by decide) (fun c_227 => ?_) (fun c_227 => ?_)
            · refine lv_iload hx hb dL_law_232 (lv_at hl 1 rfl) ?_
              refine lv_if_ne (tgt := 248) hx hb dL_law_234 (by decide) (fun c_234 => ?_) (fun c_234 => ?_)
              · exact absurd rfl c_234
              · refine lv_aload_n hx hb dL_law_237 rfl (lv_at hl 3 rfl) ?_
                refine lv_iconst (v := 0) hx hb dL_law_238 (by decide) ?_
                refine k_lald (q0 := 23) (t0 := 13) (j := 0) (n := 1) (x := ((dlF C k (gdF C k) (xs (i + 2)) (xs (i + 3)) ((N.1, 0), dpT T)).2)) S I rfl rfl (by decide) (by decide) rfl rfl dL_law_239 ?_
                refine lv_lload hx hb dL_law_240 (lv_at hl 0 rfl) ?_
                refine W.lcmp hx hb dL_law_242 ?_
                refine W.eq (congrArg (fun z => F0 m 243 ls [.int z]) ((lg_cmp_eq _ _).mpr (hans hz).symm)) ?_
                refine lv_if_eq (tgt := 248) hx hb dL_law_243 (by decide) (fun c_243 => ?_) (fun c_243 => ?_)
                · refine lv_goto (tgt := 363) hx hb dL_law_248 (by decide) ?_
                  refine lv_iinc (v := (nI (i + 6))) (lv' := [(4, .int (nI (i + 6))), (6, .long M1.2.2.2.2.1), (5, .int 0), (3, .ref od), (2, .ref (bd 0)), (1, .ref (ad 0)), (0, .ref b)]) hx hb dL_law_363 hl (k := 2) rfl (nI_add i 6) (by decide) rfl (fun ls hl => ?_)
                  refine lv_goto (tgt := 23) hx hb dL_law_366 (by decide) ?_
                  refine W.widen (k := 100 + (i + 6)) (n := 20000 + 8 * (i + 6)) (by omega) (by omega) ?_
                  exact ih (i + 6) (by omega) (by omega) C ((dlF C k (gdF C k) (xs (i + 2)) (xs (i + 3)) ((N.1, 0), dpT T)).1.1) ((dlF C k (gdF C k) (xs (i + 2)) (xs (i + 3)) ((N.1, 0), dpT T)).1.2) ((dlF C k (gdF C k) (xs (i + 2)) (xs (i + 3)) ((N.1, 0), dpT T)).1.1, M1).2 (rn + 1) (-1) 0 (vp_updL fo 0 ((dlF C k (gdF C k) (xs (i + 2)) (xs (i + 3)) ((N.1, 0), dpT T)).2)) ⟨hn1, h7, hc1, hch, hkk⟩ _ _ I ls (lv_sub hl [0, 3, 4, 5, 6] rfl)
                · exact absurd rfl c_243
            · exact absurd rfl c_227
          · obtain ⟨n9, hn9⟩ := Nat.exists_eq_succ_of_ne_zero hz
            have hch2 := hch
            rw [hn9] at hch2
            obtain ⟨j, ej, lj, kj, nj, cj⟩ := hch2
            subst ej
            have ekd : kdT (dlF C k (gdF C k) (xs (i + 2)) (xs (i + 3)) ((N.1, 0), dpT T)).1.2 = M1.1 j := (show kdT (dlF C k (gdF C k) (xs (i + 2)) (xs (i + 3)) ((N.1, 0), dpT T)).1.2 = (dlF C k (gdF C k) (xs (i + 2)) (xs (i + 3)) ((N.1, 0), dpT T)).1.2.1 n9 from by unfold kdT; rw [if_pos (by omega), hn9]; rfl).trans kj.symm
            rcases hkk (by omega) with hkd | hkd | hkd | hkd | hkd
            · have hcd : cdF (M1.1 j) = 2 := by rw [← ekd, hkd]; rfl
              refine lv_aload_n hx hb dL_law_172 rfl (lv_at hl 3 rfl) ?_
              refine lv_aload_n hx hb dL_law_173 rfl (lv_at hl 4 rfl) ?_
              refine lv_iload hx hb dL_law_174 (lv_at hl 0 rfl) ?_
              refine lv_iconst (v := 1) hx hb dL_law_176 (by decide) ?_
              refine lv_iadd hx hb dL_law_177 ?_
              refine k_scr (j := i + 1) (x := nI k) S I hX hbl (by omega) (nI_add i 1) (by omega) ek dL_law_178 ?_
              refine lv_aload_n hx hb dL_law_179 rfl (lv_at hl 4 rfl) ?_
              refine lv_iload hx hb dL_law_180 (lv_at hl 0 rfl) ?_
              refine lv_iconst (v := 2) hx hb dL_law_182 (by decide) ?_
              refine lv_iadd hx hb dL_law_183 ?_
              refine k_scr (j := i + 2) (x := xs (i + 2)) S I hX hbl (by omega) (nI_add i 2) (by omega) rfl dL_law_184 ?_
              refine lv_aload_n hx hb dL_law_185 rfl (lv_at hl 4 rfl) ?_
              refine lv_iload hx hb dL_law_186 (lv_at hl 0 rfl) ?_
              refine lv_iconst (v := 3) hx hb dL_law_188 (by decide) ?_
              refine lv_iadd hx hb dL_law_189 ?_
              refine k_scr (j := i + 3) (x := xs (i + 3)) S I hX hbl (by omega) (nI_add i 3) (by omega) rfl dL_law_190 ?_
              refine lv_aload_n hx hb dL_law_191 rfl (lv_at hl 1 rfl) ?_
              refine k_SWi (As := [.ref (ad 0), .int (nI k), .int (xs (i + 2)), .int (xs (i + 3)), .ref od]) (rest := []) (w1 := rgW ad cy C ((dlF C k (gdF C k) (xs (i + 2)) (xs (i + 3)) ((N.1, 0), dpT T)).1.1) ((dlF C k (gdF C k) (xs (i + 2)) (xs (i + 3)) ((N.1, 0), dpT T)).1.2) (rn + 1) (mdW bd cy C (N, M) rn o2 c2 ([(od, .inl (cy 13, 1, .inr (.inl fo)))]))) (G := 2) S I (c_LrunX1 l hfl D cy _ ad bd C N T rn C (N, M) rn o2 c2 od fo k hk (xs (i + 2)) (xs (i + 3)) hkd) (vx_cwSW 5 hts (gx_S gL_law_L_run xw_good) rfl rfl rfl (by decide +kernel) ⟨(Nat.le_of_ble_eq_true rfl), (Nat.le_of_ble_eq_true rfl)⟩) rfl hl.1 rfl (Nat.le_of_ble_eq_true rfl) dL_law_192 ⟨by show 100 + i + 1 ≤ 603072; omega, by show 20000 + 8 * i + 8 ≤ 7223402; omega⟩ (fun H locs I => ?_)
              refine lv_istore (lv' := [(5, .int 2), (4, .int (nI i)), (3, .ref od), (2, .ref (bd 0)), (1, .ref (ad 0)), (0, .ref b)]) hx hb dL_law_195 hl (by decide) rfl (fun ls hl => ?_)
              refine lv_aload_n hx hb dL_law_197 rfl (lv_at hl 3 rfl) ?_
              refine lv_aload_n hx hb dL_law_198 rfl (lv_at hl 5 rfl) ?_
              refine lv_iload hx hb dL_law_199 (lv_at hl 1 rfl) ?_
              refine lv_iconst (v := 1) hx hb dL_law_201 (by decide) ?_
              refine lv_iadd hx hb dL_law_202 ?_
              refine k_scr (j := i + 1) (x := nI k) S I hX hbl (by omega) (nI_add i 1) (by omega) ek dL_law_203 ?_
              refine lv_aload_n hx hb dL_law_204 rfl (lv_at hl 5 rfl) ?_
              refine lv_iload hx hb dL_law_205 (lv_at hl 1 rfl) ?_
              refine lv_iconst (v := 2) hx hb dL_law_207 (by decide) ?_
              refine lv_iadd hx hb dL_law_208 ?_
              refine k_scr (j := i + 2) (x := xs (i + 2)) S I hX hbl (by omega) (nI_add i 2) (by omega) rfl dL_law_209 ?_
              refine lv_aload_n hx hb dL_law_210 rfl (lv_at hl 5 rfl) ?_
              refine lv_iload hx hb dL_law_211 (lv_at hl 1 rfl) ?_
              refine lv_iconst (v := 3) hx hb dL_law_213 (by decide) ?_
              refine lv_iadd hx hb dL_law_214 ?_
              refine k_scr (j := i + 3) (x := xs (i + 3)) S I hX hbl (by omega) (nI_add i 3) (by omega) rfl dL_law_215 ?_
              have I := I.sub (w1 := mdW bd cy C (N, M) rn o2 c2 (rgW ad cy C ((dlF C k (gdF C k) (xs (i + 2)) (xs (i + 3)) ((N.1, 0), dpT T)).1.1) ((dlF C k (gdF C k) (xs (i + 2)) (xs (i + 3)) ((N.1, 0), dpT T)).1.2) (rn + 1) ([(od, .inl (cy 13, 1, .inr (.inl fo)))]))) [13, 14, 15, 16, 17, 18, 19, 20, 21, 22, 0, 1, 2, 3, 4, 5, 6, 7, 8, 9, 10, 11, 12, 23] rfl rfl rfl
              refine k_Vl (q0 := 0) (As := [.int (nI k), .int (xs (i + 2)), .int (xs (i + 3))]) (rest := []) (w1 := mdW bd cy C ((dlF C k (gdF C k) (xs (i + 2)) (xs (i + 3)) ((N.1, 0), dpT T)).1.1, M1) (rn + 1) (nI j) (cdF (M1.1 j)) (rgW ad cy C ((dlF C k (gdF C k) (xs (i + 2)) (xs (i + 3)) ((N.1, 0), dpT T)).1.1) ((dlF C k (gdF C k) (xs (i + 2)) (xs (i + 3)) ((N.1, 0), dpT T)).1.2) (rn + 1) ([(od, .inl (cy 13, 1, .inr (.inl fo)))]))) (G := 0) S I (c_mrun1b l D cy _ bd C N M rn o2 c2 (rgW ad cy C ((dlF C k (gdF C k) (xs (i + 2)) (xs (i + 3)) ((N.1, 0), dpT T)).1.1) ((dlF C k (gdF C k) (xs (i + 2)) (xs (i + 3)) ((N.1, 0), dpT T)).1.2) (rn + 1) ([(od, .inl (cy 13, 1, .inr (.inl fo)))])) k hk (xs (i + 2)) (xs (i + 3)) ((dlF C k (gdF C k) (xs (i + 2)) (xs (i + 3)) ((N.1, 0), dpT T)).1.1, M1) j (by omega) hR) (cwV 3 hts (gx_L gL_law_X4_run) rfl rfl rfl (by decide +kernel) ⟨Nat.le_of_ble_eq_true rfl, Nat.le_of_ble_eq_true rfl⟩) rfl rfl rfl rfl hl.1 rfl (Nat.le_of_ble_eq_true rfl) dL_law_216 ⟨by show 100 + i + 1 + 0 ≤ 603072; omega, by show 20000 + 8 * i + 8 + 0 ≤ 7223402; omega⟩ (fun H locs I => ?_)
              refine lv_lstore (lv' := [(6, .long 0), (5, .int 2), (4, .int (nI i)), (3, .ref od), (2, .ref (bd 0)), (1, .ref (ad 0)), (0, .ref b)]) hx hb dL_law_219 hl (by decide) rfl (fun ls hl => ?_)
              refine lv_aload_n hx hb dL_law_221 rfl (lv_at hl 4 rfl) ?_
              refine k_Vi (q0 := 0) (As := []) (rest := []) (w1 := mdW bd cy C ((dlF C k (gdF C k) (xs (i + 2)) (xs (i + 3)) ((N.1, 0), dpT T)).1.1, M1) (rn + 1) (nI j) (cdF (M1.1 j)) (rgW ad cy C ((dlF C k (gdF C k) (xs (i + 2)) (xs (i + 3)) ((N.1, 0), dpT T)).1.1) ((dlF C k (gdF C k) (xs (i + 2)) (xs (i + 3)) ((N.1, 0), dpT T)).1.2) (rn + 1) ([(od, .inl (cy 13, 1, .inr (.inl fo)))]))) (G := (cdF (M1.1 j))) S I (c_thrown l D cy _ bd C ((dlF C k (gdF C k) (xs (i + 2)) (xs (i + 3)) ((N.1, 0), dpT T)).1.1, M1).1 ((dlF C k (gdF C k) (xs (i + 2)) (xs (i + 3)) ((N.1, 0), dpT T)).1.1, M1).2 (rn + 1) (nI j) (cdF (M1.1 j)) (rgW ad cy C ((dlF C k (gdF C k) (xs (i + 2)) (xs (i + 3)) ((N.1, 0), dpT T)).1.1) ((dlF C k (gdF C k) (xs (i + 2)) (xs (i + 3)) ((N.1, 0), dpT T)).1.2) (rn + 1) ([(od, .inl (cy 13, 1, .inr (.inl fo)))]))) (cwV 0 hts (gx_L gL_law_X4_thrown) rfl rfl rfl (by decide +kernel) ⟨Nat.le_of_ble_eq_true rfl, Nat.le_of_ble_eq_true rfl⟩) rfl rfl rfl rfl hl.1 rfl (Nat.le_of_ble_eq_true rfl) dL_law_222 ⟨by show 100 + i + 1 + 0 + 0 ≤ 603072; omega, by show 20000 + 8 * i + 8 + 0 + 0 ≤ 7223402; omega⟩ (fun H locs I => ?_)
              have I := I.sub (w1 := rgW ad cy C ((dlF C k (gdF C k) (xs (i + 2)) (xs (i + 3)) ((N.1, 0), dpT T)).1.1) ((dlF C k (gdF C k) (xs (i + 2)) (xs (i + 3)) ((N.1, 0), dpT T)).1.2) (rn + 1) (mdW bd cy C ((dlF C k (gdF C k) (xs (i + 2)) (xs (i + 3)) ((N.1, 0), dpT T)).1.1, M1) (rn + 1) (nI j) (cdF (M1.1 j)) ([(od, .inl (cy 13, 1, .inr (.inl fo)))]))) [10, 11, 12, 13, 14, 15, 16, 17, 18, 19, 20, 21, 22, 0, 1, 2, 3, 4, 5, 6, 7, 8, 9, 23] rfl rfl rfl
              refine lv_iload hx hb dL_law_225 (lv_at hl 1 rfl) ?_
              refine lv_icmp_eq (tgt := 232) hx hb dL_law_227 (by decide) (fun c_227 => ?_) (fun c_227 => ?_)
              · refine lv_iload hx hb dL_law_232 (lv_at hl 1 rfl) ?_
                refine lv_if_ne (tgt := 248) hx hb dL_law_234 (by decide) (fun c_234 => ?_) (fun c_234 => ?_)
                · refine lv_goto (tgt := 363) hx hb dL_law_248 (by decide) ?_
                  refine lv_iinc (v := (nI (i + 6))) (lv' := [(4, .int (nI (i + 6))), (6, .long 0), (5, .int 2), (3, .ref od), (2, .ref (bd 0)), (1, .ref (ad 0)), (0, .ref b)]) hx hb dL_law_363 hl (k := 2) rfl (nI_add i 6) (by decide) rfl (fun ls hl => ?_)
                  refine lv_goto (tgt := 23) hx hb dL_law_366 (by decide) ?_
                  refine W.widen (k := 100 + (i + 6)) (n := 20000 + 8 * (i + 6)) (by omega) (by omega) ?_
                  exact ih (i + 6) (by omega) (by omega) C ((dlF C k (gdF C k) (xs (i + 2)) (xs (i + 3)) ((N.1, 0), dpT T)).1.1) ((dlF C k (gdF C k) (xs (i + 2)) (xs (i + 3)) ((N.1, 0), dpT T)).1.2) ((dlF C k (gdF C k) (xs (i + 2)) (xs (i + 3)) ((N.1, 0), dpT T)).1.1, M1).2 (rn + 1) (nI j) (cdF (M1.1 j)) fo ⟨hn1, h7, hc1, hch, hkk⟩ _ _ I ls (lv_sub hl [0, 3, 4, 5, 6] rfl)
                · exact absurd c_234 (by decide)
              · exact absurd hcd c_227
            · have hcd : cdF (M1.1 j) = 3 := by rw [← ekd, hkd]; rfl
              refine lv_aload_n hx hb dL_law_172 rfl (lv_at hl 3 rfl) ?_
              refine lv_aload_n hx hb dL_law_173 rfl (lv_at hl 4 rfl) ?_
              refine lv_iload hx hb dL_law_174 (lv_at hl 0 rfl) ?_
              refine lv_iconst (v := 1) hx hb dL_law_176 (by decide) ?_
              refine lv_iadd hx hb dL_law_177 ?_
              refine k_scr (j := i + 1) (x := nI k) S I hX hbl (by omega) (nI_add i 1) (by omega) ek dL_law_178 ?_
              refine lv_aload_n hx hb dL_law_179 rfl (lv_at hl 4 rfl) ?_
              refine lv_iload hx hb dL_law_180 (lv_at hl 0 rfl) ?_
              refine lv_iconst (v := 2) hx hb dL_law_182 (by decide) ?_
              refine lv_iadd hx hb dL_law_183 ?_
              refine k_scr (j := i + 2) (x := xs (i + 2)) S I hX hbl (by omega) (nI_add i 2) (by omega) rfl dL_law_184 ?_
              refine lv_aload_n hx hb dL_law_185 rfl (lv_at hl 4 rfl) ?_
              refine lv_iload hx hb dL_law_186 (lv_at hl 0 rfl) ?_
              refine lv_iconst (v := 3) hx hb dL_law_188 (by decide) ?_
              refine lv_iadd hx hb dL_law_189 ?_
              refine k_scr (j := i + 3) (x := xs (i + 3)) S I hX hbl (by omega) (nI_add i 3) (by omega) rfl dL_law_190 ?_
              refine lv_aload_n hx hb dL_law_191 rfl (lv_at hl 1 rfl) ?_
              refine k_SWi (As := [.ref (ad 0), .int (nI k), .int (xs (i + 2)), .int (xs (i + 3)), .ref od]) (rest := []) (w1 := rgW ad cy C ((dlF C k (gdF C k) (xs (i + 2)) (xs (i + 3)) ((N.1, 0), dpT T)).1.1) ((dlF C k (gdF C k) (xs (i + 2)) (xs (i + 3)) ((N.1, 0), dpT T)).1.2) (rn + 1) (mdW bd cy C (N, M) rn o2 c2 ([(od, .inl (cy 13, 1, .inr (.inl fo)))]))) (G := 3) S I (c_LrunX2 l hfl D cy _ ad bd C N T rn C (N, M) rn o2 c2 od fo k hk (xs (i + 2)) (xs (i + 3)) hkd) (vx_cwSW 5 hts (gx_S gL_law_L_run xw_good) rfl rfl rfl (by decide +kernel) ⟨(Nat.le_of_ble_eq_true rfl), (Nat.le_of_ble_eq_true rfl)⟩) rfl hl.1 rfl (Nat.le_of_ble_eq_true rfl) dL_law_192 ⟨by show 100 + i + 1 ≤ 603072; omega, by show 20000 + 8 * i + 8 ≤ 7223402; omega⟩ (fun H locs I => ?_)
              refine lv_istore (lv' := [(5, .int 3), (4, .int (nI i)), (3, .ref od), (2, .ref (bd 0)), (1, .ref (ad 0)), (0, .ref b)]) hx hb dL_law_195 hl (by decide) rfl (fun ls hl => ?_)
              refine lv_aload_n hx hb dL_law_197 rfl (lv_at hl 3 rfl) ?_
              refine lv_aload_n hx hb dL_law_198 rfl (lv_at hl 5 rfl) ?_
              refine lv_iload hx hb dL_law_199 (lv_at hl 1 rfl) ?_
              refine lv_iconst (v := 1) hx hb dL_law_201 (by decide) ?_
              refine lv_iadd hx hb dL_law_202 ?_
              refine k_scr (j := i + 1) (x := nI k) S I hX hbl (by omega) (nI_add i 1) (by omega) ek dL_law_203 ?_
              refine lv_aload_n hx hb dL_law_204 rfl (lv_at hl 5 rfl) ?_
              refine lv_iload hx hb dL_law_205 (lv_at hl 1 rfl) ?_
              refine lv_iconst (v := 2) hx hb dL_law_207 (by decide) ?_
              refine lv_iadd hx hb dL_law_208 ?_
              refine k_scr (j := i + 2) (x := xs (i + 2)) S I hX hbl (by omega) (nI_add i 2) (by omega) rfl dL_law_209 ?_
              refine lv_aload_n hx hb dL_law_210 rfl (lv_at hl 5 rfl) ?_
              refine lv_iload hx hb dL_law_211 (lv_at hl 1 rfl) ?_
              refine lv_iconst (v := 3) hx hb dL_law_213 (by decide) ?_
              refine lv_iadd hx hb dL_law_214 ?_
              refine k_scr (j := i + 3) (x := xs (i + 3)) S I hX hbl (by omega) (nI_add i 3) (by omega) rfl dL_law_215 ?_
              have I := I.sub (w1 := mdW bd cy C (N, M) rn o2 c2 (rgW ad cy C ((dlF C k (gdF C k) (xs (i + 2)) (xs (i + 3)) ((N.1, 0), dpT T)).1.1) ((dlF C k (gdF C k) (xs (i + 2)) (xs (i + 3)) ((N.1, 0), dpT T)).1.2) (rn + 1) ([(od, .inl (cy 13, 1, .inr (.inl fo)))]))) [13, 14, 15, 16, 17, 18, 19, 20, 21, 22, 0, 1, 2, 3, 4, 5, 6, 7, 8, 9, 10, 11, 12, 23] rfl rfl rfl
              refine k_Vl (q0 := 0) (As := [.int (nI k), .int (xs (i + 2)), .int (xs (i + 3))]) (rest := []) (w1 := mdW bd cy C ((dlF C k (gdF C k) (xs (i + 2)) (xs (i + 3)) ((N.1, 0), dpT T)).1.1, M1) (rn + 1) (nI j) (cdF (M1.1 j)) (rgW ad cy C ((dlF C k (gdF C k) (xs (i + 2)) (xs (i + 3)) ((N.1, 0), dpT T)).1.1) ((dlF C k (gdF C k) (xs (i + 2)) (xs (i + 3)) ((N.1, 0), dpT T)).1.2) (rn + 1) ([(od, .inl (cy 13, 1, .inr (.inl fo)))]))) (G := 0) S I (c_mrun1b l D cy _ bd C N M rn o2 c2 (rgW ad cy C ((dlF C k (gdF C k) (xs (i + 2)) (xs (i + 3)) ((N.1, 0), dpT T)).1.1) ((dlF C k (gdF C k) (xs (i + 2)) (xs (i + 3)) ((N.1, 0), dpT T)).1.2) (rn + 1) ([(od, .inl (cy 13, 1, .inr (.inl fo)))])) k hk (xs (i + 2)) (xs (i + 3)) ((dlF C k (gdF C k) (xs (i + 2)) (xs (i + 3)) ((N.1, 0), dpT T)).1.1, M1) j (by omega) hR) (cwV 3 hts (gx_L gL_law_X4_run) rfl rfl rfl (by decide +kernel) ⟨Nat.le_of_ble_eq_true rfl, Nat.le_of_ble_eq_true rfl⟩) rfl rfl rfl rfl hl.1 rfl (Nat.le_of_ble_eq_true rfl) dL_law_216 ⟨by show 100 + i + 1 + 0 ≤ 603072; omega, by show 20000 + 8 * i + 8 + 0 ≤ 7223402; omega⟩ (fun H locs I => ?_)
              refine lv_lstore (lv' := [(6, .long 0), (5, .int 3), (4, .int (nI i)), (3, .ref od), (2, .ref (bd 0)), (1, .ref (ad 0)), (0, .ref b)]) hx hb dL_law_219 hl (by decide) rfl (fun ls hl => ?_)
              refine lv_aload_n hx hb dL_law_221 rfl (lv_at hl 4 rfl) ?_
              refine k_Vi (q0 := 0) (As := []) (rest := []) (w1 := mdW bd cy C ((dlF C k (gdF C k) (xs (i + 2)) (xs (i + 3)) ((N.1, 0), dpT T)).1.1, M1) (rn + 1) (nI j) (cdF (M1.1 j)) (rgW ad cy C ((dlF C k (gdF C k) (xs (i + 2)) (xs (i + 3)) ((N.1, 0), dpT T)).1.1) ((dlF C k (gdF C k) (xs (i + 2)) (xs (i + 3)) ((N.1, 0), dpT T)).1.2) (rn + 1) ([(od, .inl (cy 13, 1, .inr (.inl fo)))]))) (G := (cdF (M1.1 j))) S I (c_thrown l D cy _ bd C ((dlF C k (gdF C k) (xs (i + 2)) (xs (i + 3)) ((N.1, 0), dpT T)).1.1, M1).1 ((dlF C k (gdF C k) (xs (i + 2)) (xs (i + 3)) ((N.1, 0), dpT T)).1.1, M1).2 (rn + 1) (nI j) (cdF (M1.1 j)) (rgW ad cy C ((dlF C k (gdF C k) (xs (i + 2)) (xs (i + 3)) ((N.1, 0), dpT T)).1.1) ((dlF C k (gdF C k) (xs (i + 2)) (xs (i + 3)) ((N.1, 0), dpT T)).1.2) (rn + 1) ([(od, .inl (cy 13, 1, .inr (.inl fo)))]))) (cwV 0 hts (gx_L gL_law_X4_thrown) rfl rfl rfl (by decide +kernel) ⟨Nat.le_of_ble_eq_true rfl, Nat.le_of_ble_eq_true rfl⟩) rfl rfl rfl rfl hl.1 rfl (Nat.le_of_ble_eq_true rfl) dL_law_222 ⟨by show 100 + i + 1 + 0 + 0 ≤ 603072; omega, by show 20000 + 8 * i + 8 + 0 + 0 ≤ 7223402; omega⟩ (fun H locs I => ?_)
              have I := I.sub (w1 := rgW ad cy C ((dlF C k (gdF C k) (xs (i + 2)) (xs (i + 3)) ((N.1, 0), dpT T)).1.1) ((dlF C k (gdF C k) (xs (i + 2)) (xs (i + 3)) ((N.1, 0), dpT T)).1.2) (rn + 1) (mdW bd cy C ((dlF C k (gdF C k) (xs (i + 2)) (xs (i + 3)) ((N.1, 0), dpT T)).1.1, M1) (rn + 1) (nI j) (cdF (M1.1 j)) ([(od, .inl (cy 13, 1, .inr (.inl fo)))]))) [10, 11, 12, 13, 14, 15, 16, 17, 18, 19, 20, 21, 22, 0, 1, 2, 3, 4, 5, 6, 7, 8, 9, 23] rfl rfl rfl
              refine lv_iload hx hb dL_law_225 (lv_at hl 1 rfl) ?_
              refine lv_icmp_eq (tgt := 232) hx hb dL_law_227 (by decide) (fun c_227 => ?_) (fun c_227 => ?_)
              · refine lv_iload hx hb dL_law_232 (lv_at hl 1 rfl) ?_
                refine lv_if_ne (tgt := 248) hx hb dL_law_234 (by decide) (fun c_234 => ?_) (fun c_234 => ?_)
                · refine lv_goto (tgt := 363) hx hb dL_law_248 (by decide) ?_
                  refine lv_iinc (v := (nI (i + 6))) (lv' := [(4, .int (nI (i + 6))), (6, .long 0), (5, .int 3), (3, .ref od), (2, .ref (bd 0)), (1, .ref (ad 0)), (0, .ref b)]) hx hb dL_law_363 hl (k := 2) rfl (nI_add i 6) (by decide) rfl (fun ls hl => ?_)
                  refine lv_goto (tgt := 23) hx hb dL_law_366 (by decide) ?_
                  refine W.widen (k := 100 + (i + 6)) (n := 20000 + 8 * (i + 6)) (by omega) (by omega) ?_
                  exact ih (i + 6) (by omega) (by omega) C ((dlF C k (gdF C k) (xs (i + 2)) (xs (i + 3)) ((N.1, 0), dpT T)).1.1) ((dlF C k (gdF C k) (xs (i + 2)) (xs (i + 3)) ((N.1, 0), dpT T)).1.2) ((dlF C k (gdF C k) (xs (i + 2)) (xs (i + 3)) ((N.1, 0), dpT T)).1.1, M1).2 (rn + 1) (nI j) (cdF (M1.1 j)) fo ⟨hn1, h7, hc1, hch, hkk⟩ _ _ I ls (lv_sub hl [0, 3, 4, 5, 6] rfl)
                · exact absurd c_234 (by decide)
              · exact absurd hcd c_227
            · have hcd : cdF (M1.1 j) = 1 := by rw [← ekd, hkd]; rfl
              refine lv_aload_n hx hb dL_law_172 rfl (lv_at hl 3 rfl) ?_
              refine lv_aload_n hx hb dL_law_173 rfl (lv_at hl 4 rfl) ?_
              refine lv_iload hx hb dL_law_174 (lv_at hl 0 rfl) ?_
              refine lv_iconst (v := 1) hx hb dL_law_176 (by decide) ?_
              refine lv_iadd hx hb dL_law_177 ?_
              refine k_scr (j := i + 1) (x := nI k) S I hX hbl (by omega) (nI_add i 1) (by omega) ek dL_law_178 ?_
              refine lv_aload_n hx hb dL_law_179 rfl (lv_at hl 4 rfl) ?_
              refine lv_iload hx hb dL_law_180 (lv_at hl 0 rfl) ?_
              refine lv_iconst (v := 2) hx hb dL_law_182 (by decide) ?_
              refine lv_iadd hx hb dL_law_183 ?_
              refine k_scr (j := i + 2) (x := xs (i + 2)) S I hX hbl (by omega) (nI_add i 2) (by omega) rfl dL_law_184 ?_
              refine lv_aload_n hx hb dL_law_185 rfl (lv_at hl 4 rfl) ?_
              refine lv_iload hx hb dL_law_186 (lv_at hl 0 rfl) ?_
              refine lv_iconst (v := 3) hx hb dL_law_188 (by decide) ?_
              refine lv_iadd hx hb dL_law_189 ?_
              refine k_scr (j := i + 3) (x := xs (i + 3)) S I hX hbl (by omega) (nI_add i 3) (by omega) rfl dL_law_190 ?_
              refine lv_aload_n hx hb dL_law_191 rfl (lv_at hl 1 rfl) ?_
              refine k_SWi (As := [.ref (ad 0), .int (nI k), .int (xs (i + 2)), .int (xs (i + 3)), .ref od]) (rest := []) (w1 := rgW ad cy C ((dlF C k (gdF C k) (xs (i + 2)) (xs (i + 3)) ((N.1, 0), dpT T)).1.1) ((dlF C k (gdF C k) (xs (i + 2)) (xs (i + 3)) ((N.1, 0), dpT T)).1.2) (rn + 1) (mdW bd cy C (N, M) rn o2 c2 ([(od, .inl (cy 13, 1, .inr (.inl fo)))]))) (G := 1) S I (c_LrunX3 l hfl D cy _ ad bd C N T rn C (N, M) rn o2 c2 od fo k hk (xs (i + 2)) (xs (i + 3)) hkd) (vx_cwSW 5 hts (gx_S gL_law_L_run xw_good) rfl rfl rfl (by decide +kernel) ⟨(Nat.le_of_ble_eq_true rfl), (Nat.le_of_ble_eq_true rfl)⟩) rfl hl.1 rfl (Nat.le_of_ble_eq_true rfl) dL_law_192 ⟨by show 100 + i + 1 ≤ 603072; omega, by show 20000 + 8 * i + 8 ≤ 7223402; omega⟩ (fun H locs I => ?_)
              refine lv_istore (lv' := [(5, .int 1), (4, .int (nI i)), (3, .ref od), (2, .ref (bd 0)), (1, .ref (ad 0)), (0, .ref b)]) hx hb dL_law_195 hl (by decide) rfl (fun ls hl => ?_)
              refine lv_aload_n hx hb dL_law_197 rfl (lv_at hl 3 rfl) ?_
              refine lv_aload_n hx hb dL_law_198 rfl (lv_at hl 5 rfl) ?_
              refine lv_iload hx hb dL_law_199 (lv_at hl 1 rfl) ?_
              refine lv_iconst (v := 1) hx hb dL_law_201 (by decide) ?_
              refine lv_iadd hx hb dL_law_202 ?_
              refine k_scr (j := i + 1) (x := nI k) S I hX hbl (by omega) (nI_add i 1) (by omega) ek dL_law_203 ?_
              refine lv_aload_n hx hb dL_law_204 rfl (lv_at hl 5 rfl) ?_
              refine lv_iload hx hb dL_law_205 (lv_at hl 1 rfl) ?_
              refine lv_iconst (v := 2) hx hb dL_law_207 (by decide) ?_
              refine lv_iadd hx hb dL_law_208 ?_
              refine k_scr (j := i + 2) (x := xs (i + 2)) S I hX hbl (by omega) (nI_add i 2) (by omega) rfl dL_law_209 ?_
              refine lv_aload_n hx hb dL_law_210 rfl (lv_at hl 5 rfl) ?_
              refine lv_iload hx hb dL_law_211 (lv_at hl 1 rfl) ?_
              refine lv_iconst (v := 3) hx hb dL_law_213 (by decide) ?_
              refine lv_iadd hx hb dL_law_214 ?_
              refine k_scr (j := i + 3) (x := xs (i + 3)) S I hX hbl (by omega) (nI_add i 3) (by omega) rfl dL_law_215 ?_
              have I := I.sub (w1 := mdW bd cy C (N, M) rn o2 c2 (rgW ad cy C ((dlF C k (gdF C k) (xs (i + 2)) (xs (i + 3)) ((N.1, 0), dpT T)).1.1) ((dlF C k (gdF C k) (xs (i + 2)) (xs (i + 3)) ((N.1, 0), dpT T)).1.2) (rn + 1) ([(od, .inl (cy 13, 1, .inr (.inl fo)))]))) [13, 14, 15, 16, 17, 18, 19, 20, 21, 22, 0, 1, 2, 3, 4, 5, 6, 7, 8, 9, 10, 11, 12, 23] rfl rfl rfl
              refine k_Vl (q0 := 0) (As := [.int (nI k), .int (xs (i + 2)), .int (xs (i + 3))]) (rest := []) (w1 := mdW bd cy C ((dlF C k (gdF C k) (xs (i + 2)) (xs (i + 3)) ((N.1, 0), dpT T)).1.1, M1) (rn + 1) (nI j) (cdF (M1.1 j)) (rgW ad cy C ((dlF C k (gdF C k) (xs (i + 2)) (xs (i + 3)) ((N.1, 0), dpT T)).1.1) ((dlF C k (gdF C k) (xs (i + 2)) (xs (i + 3)) ((N.1, 0), dpT T)).1.2) (rn + 1) ([(od, .inl (cy 13, 1, .inr (.inl fo)))]))) (G := 0) S I (c_mrun1b l D cy _ bd C N M rn o2 c2 (rgW ad cy C ((dlF C k (gdF C k) (xs (i + 2)) (xs (i + 3)) ((N.1, 0), dpT T)).1.1) ((dlF C k (gdF C k) (xs (i + 2)) (xs (i + 3)) ((N.1, 0), dpT T)).1.2) (rn + 1) ([(od, .inl (cy 13, 1, .inr (.inl fo)))])) k hk (xs (i + 2)) (xs (i + 3)) ((dlF C k (gdF C k) (xs (i + 2)) (xs (i + 3)) ((N.1, 0), dpT T)).1.1, M1) j (by omega) hR) (cwV 3 hts (gx_L gL_law_X4_run) rfl rfl rfl (by decide +kernel) ⟨Nat.le_of_ble_eq_true rfl, Nat.le_of_ble_eq_true rfl⟩) rfl rfl rfl rfl hl.1 rfl (Nat.le_of_ble_eq_true rfl) dL_law_216 ⟨by show 100 + i + 1 + 0 ≤ 603072; omega, by show 20000 + 8 * i + 8 + 0 ≤ 7223402; omega⟩ (fun H locs I => ?_)
              refine lv_lstore (lv' := [(6, .long 0), (5, .int 1), (4, .int (nI i)), (3, .ref od), (2, .ref (bd 0)), (1, .ref (ad 0)), (0, .ref b)]) hx hb dL_law_219 hl (by decide) rfl (fun ls hl => ?_)
              refine lv_aload_n hx hb dL_law_221 rfl (lv_at hl 4 rfl) ?_
              refine k_Vi (q0 := 0) (As := []) (rest := []) (w1 := mdW bd cy C ((dlF C k (gdF C k) (xs (i + 2)) (xs (i + 3)) ((N.1, 0), dpT T)).1.1, M1) (rn + 1) (nI j) (cdF (M1.1 j)) (rgW ad cy C ((dlF C k (gdF C k) (xs (i + 2)) (xs (i + 3)) ((N.1, 0), dpT T)).1.1) ((dlF C k (gdF C k) (xs (i + 2)) (xs (i + 3)) ((N.1, 0), dpT T)).1.2) (rn + 1) ([(od, .inl (cy 13, 1, .inr (.inl fo)))]))) (G := (cdF (M1.1 j))) S I (c_thrown l D cy _ bd C ((dlF C k (gdF C k) (xs (i + 2)) (xs (i + 3)) ((N.1, 0), dpT T)).1.1, M1).1 ((dlF C k (gdF C k) (xs (i + 2)) (xs (i + 3)) ((N.1, 0), dpT T)).1.1, M1).2 (rn + 1) (nI j) (cdF (M1.1 j)) (rgW ad cy C ((dlF C k (gdF C k) (xs (i + 2)) (xs (i + 3)) ((N.1, 0), dpT T)).1.1) ((dlF C k (gdF C k) (xs (i + 2)) (xs (i + 3)) ((N.1, 0), dpT T)).1.2) (rn + 1) ([(od, .inl (cy 13, 1, .inr (.inl fo)))]))) (cwV 0 hts (gx_L gL_law_X4_thrown) rfl rfl rfl (by decide +kernel) ⟨Nat.le_of_ble_eq_true rfl, Nat.le_of_ble_eq_true rfl⟩) rfl rfl rfl rfl hl.1 rfl (Nat.le_of_ble_eq_true rfl) dL_law_222 ⟨by show 100 + i + 1 + 0 + 0 ≤ 603072; omega, by show 20000 + 8 * i + 8 + 0 + 0 ≤ 7223402; omega⟩ (fun H locs I => ?_)
              have I := I.sub (w1 := rgW ad cy C ((dlF C k (gdF C k) (xs (i + 2)) (xs (i + 3)) ((N.1, 0), dpT T)).1.1) ((dlF C k (gdF C k) (xs (i + 2)) (xs (i + 3)) ((N.1, 0), dpT T)).1.2) (rn + 1) (mdW bd cy C ((dlF C k (gdF C k) (xs (i + 2)) (xs (i + 3)) ((N.1, 0), dpT T)).1.1, M1) (rn + 1) (nI j) (cdF (M1.1 j)) ([(od, .inl (cy 13, 1, .inr (.inl fo)))]))) [10, 11, 12, 13, 14, 15, 16, 17, 18, 19, 20, 21, 22, 0, 1, 2, 3, 4, 5, 6, 7, 8, 9, 23] rfl rfl rfl
              refine lv_iload hx hb dL_law_225 (lv_at hl 1 rfl) ?_
              refine lv_icmp_eq (tgt := 232) hx hb dL_law_227 (by decide) (fun c_227 => ?_) (fun c_227 => ?_)
              · refine lv_iload hx hb dL_law_232 (lv_at hl 1 rfl) ?_
                refine lv_if_ne (tgt := 248) hx hb dL_law_234 (by decide) (fun c_234 => ?_) (fun c_234 => ?_)
                · refine lv_goto (tgt := 363) hx hb dL_law_248 (by decide) ?_
                  refine lv_iinc (v := (nI (i + 6))) (lv' := [(4, .int (nI (i + 6))), (6, .long 0), (5, .int 1), (3, .ref od), (2, .ref (bd 0)), (1, .ref (ad 0)), (0, .ref b)]) hx hb dL_law_363 hl (k := 2) rfl (nI_add i 6) (by decide) rfl (fun ls hl => ?_)
                  refine lv_goto (tgt := 23) hx hb dL_law_366 (by decide) ?_
                  refine W.widen (k := 100 + (i + 6)) (n := 20000 + 8 * (i + 6)) (by omega) (by omega) ?_
                  exact ih (i + 6) (by omega) (by omega) C ((dlF C k (gdF C k) (xs (i + 2)) (xs (i + 3)) ((N.1, 0), dpT T)).1.1) ((dlF C k (gdF C k) (xs (i + 2)) (xs (i + 3)) ((N.1, 0), dpT T)).1.2) ((dlF C k (gdF C k) (xs (i + 2)) (xs (i + 3)) ((N.1, 0), dpT T)).1.1, M1).2 (rn + 1) (nI j) (cdF (M1.1 j)) fo ⟨hn1, h7, hc1, hch, hkk⟩ _ _ I ls (lv_sub hl [0, 3, 4, 5, 6] rfl)
                · exact absurd c_234 (by decide)
              · exact absurd hcd c_227
            · have hcd : cdF (M1.1 j) = 4 := by rw [← ekd, hkd]; rfl
              refine lv_aload_n hx hb dL_law_172 rfl (lv_at hl 3 rfl) ?_
              refine lv_aload_n hx hb dL_law_173 rfl (lv_at hl 4 rfl) ?_
              refine lv_iload hx hb dL_law_174 (lv_at hl 0 rfl) ?_
              refine lv_iconst (v := 1) hx hb dL_law_176 (by decide) ?_
              refine lv_iadd hx hb dL_law_177 ?_
              refine k_scr (j := i + 1) (x := nI k) S I hX hbl (by omega) (nI_add i 1) (by omega) ek dL_law_178 ?_
              refine lv_aload_n hx hb dL_law_179 rfl (lv_at hl 4 rfl) ?_
              refine lv_iload hx hb dL_law_180 (lv_at hl 0 rfl) ?_
              refine lv_iconst (v := 2) hx hb dL_law_182 (by decide) ?_
              refine lv_iadd hx hb dL_law_183 ?_
              refine k_scr (j := i + 2) (x := xs (i + 2)) S I hX hbl (by omega) (nI_add i 2) (by omega) rfl dL_law_184 ?_
              refine lv_aload_n hx hb dL_law_185 rfl (lv_at hl 4 rfl) ?_
              refine lv_iload hx hb dL_law_186 (lv_at hl 0 rfl) ?_
              refine lv_iconst (v := 3) hx hb dL_law_188 (by decide) ?_
              refine lv_iadd hx hb dL_law_189 ?_
              refine k_scr (j := i + 3) (x := xs (i + 3)) S I hX hbl (by omega) (nI_add i 3) (by omega) rfl dL_law_190 ?_
              refine lv_aload_n hx hb dL_law_191 rfl (lv_at hl 1 rfl) ?_
              refine k_SWi (As := [.ref (ad 0), .int (nI k), .int (xs (i + 2)), .int (xs (i + 3)), .ref od]) (rest := []) (w1 := rgW ad cy C ((dlF C k (gdF C k) (xs (i + 2)) (xs (i + 3)) ((N.1, 0), dpT T)).1.1) ((dlF C k (gdF C k) (xs (i + 2)) (xs (i + 3)) ((N.1, 0), dpT T)).1.2) (rn + 1) (mdW bd cy C (N, M) rn o2 c2 ([(od, .inl (cy 13, 1, .inr (.inl fo)))]))) (G := 4) S I (c_LrunX4 l hfl D cy _ ad bd C N T rn C (N, M) rn o2 c2 od fo k hk (xs (i + 2)) (xs (i + 3)) hkd) (vx_cwSW 5 hts (gx_S gL_law_L_run xw_good) rfl rfl rfl (by decide +kernel) ⟨(Nat.le_of_ble_eq_true rfl), (Nat.le_of_ble_eq_true rfl)⟩) rfl hl.1 rfl (Nat.le_of_ble_eq_true rfl) dL_law_192 ⟨by show 100 + i + 1 ≤ 603072; omega, by show 20000 + 8 * i + 8 ≤ 7223402; omega⟩ (fun H locs I => ?_)
              refine lv_istore (lv' := [(5, .int 4), (4, .int (nI i)), (3, .ref od), (2, .ref (bd 0)), (1, .ref (ad 0)), (0, .ref b)]) hx hb dL_law_195 hl (by decide) rfl (fun ls hl => ?_)
              refine lv_aload_n hx hb dL_law_197 rfl (lv_at hl 3 rfl) ?_
              refine lv_aload_n hx hb dL_law_198 rfl (lv_at hl 5 rfl) ?_
              refine lv_iload hx hb dL_law_199 (lv_at hl 1 rfl) ?_
              refine lv_iconst (v := 1) hx hb dL_law_201 (by decide) ?_
              refine lv_iadd hx hb dL_law_202 ?_
              refine k_scr (j := i + 1) (x := nI k) S I hX hbl (by omega) (nI_add i 1) (by omega) ek dL_law_203 ?_
              refine lv_aload_n hx hb dL_law_204 rfl (lv_at hl 5 rfl) ?_
              refine lv_iload hx hb dL_law_205 (lv_at hl 1 rfl) ?_
              refine lv_iconst (v := 2) hx hb dL_law_207 (by decide) ?_
              refine lv_iadd hx hb dL_law_208 ?_
              refine k_scr (j := i + 2) (x := xs (i + 2)) S I hX hbl (by omega) (nI_add i 2) (by omega) rfl dL_law_209 ?_
              refine lv_aload_n hx hb dL_law_210 rfl (lv_at hl 5 rfl) ?_
              refine lv_iload hx hb dL_law_211 (lv_at hl 1 rfl) ?_
              refine lv_iconst (v := 3) hx hb dL_law_213 (by decide) ?_
              refine lv_iadd hx hb dL_law_214 ?_
              refine k_scr (j := i + 3) (x := xs (i + 3)) S I hX hbl (by omega) (nI_add i 3) (by omega) rfl dL_law_215 ?_
              have I := I.sub (w1 := mdW bd cy C (N, M) rn o2 c2 (rgW ad cy C ((dlF C k (gdF C k) (xs (i + 2)) (xs (i + 3)) ((N.1, 0), dpT T)).1.1) ((dlF C k (gdF C k) (xs (i + 2)) (xs (i + 3)) ((N.1, 0), dpT T)).1.2) (rn + 1) ([(od, .inl (cy 13, 1, .inr (.inl fo)))]))) [13, 14, 15, 16, 17, 18, 19, 20, 21, 22, 0, 1, 2, 3, 4, 5, 6, 7, 8, 9, 10, 11, 12, 23] rfl rfl rfl
              refine k_Vl (q0 := 0) (As := [.int (nI k), .int (xs (i + 2)), .int (xs (i + 3))]) (rest := []) (w1 := mdW bd cy C ((dlF C k (gdF C k) (xs (i + 2)) (xs (i + 3)) ((N.1, 0), dpT T)).1.1, M1) (rn + 1) (nI j) (cdF (M1.1 j)) (rgW ad cy C ((dlF C k (gdF C k) (xs (i + 2)) (xs (i + 3)) ((N.1, 0), dpT T)).1.1) ((dlF C k (gdF C k) (xs (i + 2)) (xs (i + 3)) ((N.1, 0), dpT T)).1.2) (rn + 1) ([(od, .inl (cy 13, 1, .inr (.inl fo)))]))) (G := 0) S I (c_mrun1b l D cy _ bd C N M rn o2 c2 (rgW ad cy C ((dlF C k (gdF C k) (xs (i + 2)) (xs (i + 3)) ((N.1, 0), dpT T)).1.1) ((dlF C k (gdF C k) (xs (i + 2)) (xs (i + 3)) ((N.1, 0), dpT T)).1.2) (rn + 1) ([(od, .inl (cy 13, 1, .inr (.inl fo)))])) k hk (xs (i + 2)) (xs (i + 3)) ((dlF C k (gdF C k) (xs (i + 2)) (xs (i + 3)) ((N.1, 0), dpT T)).1.1, M1) j (by omega) hR) (cwV 3 hts (gx_L gL_law_X4_run) rfl rfl rfl (by decide +kernel) ⟨Nat.le_of_ble_eq_true rfl, Nat.le_of_ble_eq_true rfl⟩) rfl rfl rfl rfl hl.1 rfl (Nat.le_of_ble_eq_true rfl) dL_law_216 ⟨by show 100 + i + 1 + 0 ≤ 603072; omega, by show 20000 + 8 * i + 8 + 0 ≤ 7223402; omega⟩ (fun H locs I => ?_)
              refine lv_lstore (lv' := [(6, .long 0), (5, .int 4), (4, .int (nI i)), (3, .ref od), (2, .ref (bd 0)), (1, .ref (ad 0)), (0, .ref b)]) hx hb dL_law_219 hl (by decide) rfl (fun ls hl => ?_)
              refine lv_aload_n hx hb dL_law_221 rfl (lv_at hl 4 rfl) ?_
              refine k_Vi (q0 := 0) (As := []) (rest := []) (w1 := mdW bd cy C ((dlF C k (gdF C k) (xs (i + 2)) (xs (i + 3)) ((N.1, 0), dpT T)).1.1, M1) (rn + 1) (nI j) (cdF (M1.1 j)) (rgW ad cy C ((dlF C k (gdF C k) (xs (i + 2)) (xs (i + 3)) ((N.1, 0), dpT T)).1.1) ((dlF C k (gdF C k) (xs (i + 2)) (xs (i + 3)) ((N.1, 0), dpT T)).1.2) (rn + 1) ([(od, .inl (cy 13, 1, .inr (.inl fo)))]))) (G := (cdF (M1.1 j))) S I (c_thrown l D cy _ bd C ((dlF C k (gdF C k) (xs (i + 2)) (xs (i + 3)) ((N.1, 0), dpT T)).1.1, M1).1 ((dlF C k (gdF C k) (xs (i + 2)) (xs (i + 3)) ((N.1, 0), dpT T)).1.1, M1).2 (rn + 1) (nI j) (cdF (M1.1 j)) (rgW ad cy C ((dlF C k (gdF C k) (xs (i + 2)) (xs (i + 3)) ((N.1, 0), dpT T)).1.1) ((dlF C k (gdF C k) (xs (i + 2)) (xs (i + 3)) ((N.1, 0), dpT T)).1.2) (rn + 1) ([(od, .inl (cy 13, 1, .inr (.inl fo)))]))) (cwV 0 hts (gx_L gL_law_X4_thrown) rfl rfl rfl (by decide +kernel) ⟨Nat.le_of_ble_eq_true rfl, Nat.le_of_ble_eq_true rfl⟩) rfl rfl rfl rfl hl.1 rfl (Nat.le_of_ble_eq_true rfl) dL_law_222 ⟨by show 100 + i + 1 + 0 + 0 ≤ 603072; omega, by show 20000 + 8 * i + 8 + 0 + 0 ≤ 7223402; omega⟩ (fun H locs I => ?_)
              have I := I.sub (w1 := rgW ad cy C ((dlF C k (gdF C k) (xs (i + 2)) (xs (i + 3)) ((N.1, 0), dpT T)).1.1) ((dlF C k (gdF C k) (xs (i + 2)) (xs (i + 3)) ((N.1, 0), dpT T)).1.2) (rn + 1) (mdW bd cy C ((dlF C k (gdF C k) (xs (i + 2)) (xs (i + 3)) ((N.1, 0), dpT T)).1.1, M1) (rn + 1) (nI j) (cdF (M1.1 j)) ([(od, .inl (cy 13, 1, .inr (.inl fo)))]))) [10, 11, 12, 13, 14, 15, 16, 17, 18, 19, 20, 21, 22, 0, 1, 2, 3, 4, 5, 6, 7, 8, 9, 23] rfl rfl rfl
              refine lv_iload hx hb dL_law_225 (lv_at hl 1 rfl) ?_
              refine lv_icmp_eq (tgt := 232) hx hb dL_law_227 (by decide) (fun c_227 => ?_) (fun c_227 => ?_)
              · refine lv_iload hx hb dL_law_232 (lv_at hl 1 rfl) ?_
                refine lv_if_ne (tgt := 248) hx hb dL_law_234 (by decide) (fun c_234 => ?_) (fun c_234 => ?_)
                · refine lv_goto (tgt := 363) hx hb dL_law_248 (by decide) ?_
                  refine lv_iinc (v := (nI (i + 6))) (lv' := [(4, .int (nI (i + 6))), (6, .long 0), (5, .int 4), (3, .ref od), (2, .ref (bd 0)), (1, .ref (ad 0)), (0, .ref b)]) hx hb dL_law_363 hl (k := 2) rfl (nI_add i 6) (by decide) rfl (fun ls hl => ?_)
                  refine lv_goto (tgt := 23) hx hb dL_law_366 (by decide) ?_
                  refine W.widen (k := 100 + (i + 6)) (n := 20000 + 8 * (i + 6)) (by omega) (by omega) ?_
                  exact ih (i + 6) (by omega) (by omega) C ((dlF C k (gdF C k) (xs (i + 2)) (xs (i + 3)) ((N.1, 0), dpT T)).1.1) ((dlF C k (gdF C k) (xs (i + 2)) (xs (i + 3)) ((N.1, 0), dpT T)).1.2) ((dlF C k (gdF C k) (xs (i + 2)) (xs (i + 3)) ((N.1, 0), dpT T)).1.1, M1).2 (rn + 1) (nI j) (cdF (M1.1 j)) fo ⟨hn1, h7, hc1, hch, hkk⟩ _ _ I ls (lv_sub hl [0, 3, 4, 5, 6] rfl)
                · exact absurd c_234 (by decide)
              · exact absurd hcd c_227
            · have hcd : cdF (M1.1 j) = 5 := by rw [← ekd, hkd]; rfl
              refine lv_aload_n hx hb dL_law_172 rfl (lv_at hl 3 rfl) ?_
              refine lv_aload_n hx hb dL_law_173 rfl (lv_at hl 4 rfl) ?_
              refine lv_iload hx hb dL_law_174 (lv_at hl 0 rfl) ?_
              refine lv_iconst (v := 1) hx hb dL_law_176 (by decide) ?_
              refine lv_iadd hx hb dL_law_177 ?_
              refine k_scr (j := i + 1) (x := nI k) S I hX hbl (by omega) (nI_add i 1) (by omega) ek dL_law_178 ?_
              refine lv_aload_n hx hb dL_law_179 rfl (lv_at hl 4 rfl) ?_
              refine lv_iload hx hb dL_law_180 (lv_at hl 0 rfl) ?_
              refine lv_iconst (v := 2) hx hb dL_law_182 (by decide) ?_
              refine lv_iadd hx hb dL_law_183 ?_
              refine k_scr (j := i + 2) (x := xs (i + 2)) S I hX hbl (by omega) (nI_add i 2) (by omega) rfl dL_law_184 ?_
              refine lv_aload_n hx hb dL_law_185 rfl (lv_at hl 4 rfl) ?_
              refine lv_iload hx hb dL_law_186 (lv_at hl 0 rfl) ?_
              refine lv_iconst (v := 3) hx hb dL_law_188 (by decide) ?_
              refine lv_iadd hx hb dL_law_189 ?_
              refine k_scr (j := i + 3) (x := xs (i + 3)) S I hX hbl (by omega) (nI_add i 3) (by omega) rfl dL_law_190 ?_
              refine lv_aload_n hx hb dL_law_191 rfl (lv_at hl 1 rfl) ?_
              refine k_SWi (As := [.ref (ad 0), .int (nI k), .int (xs (i + 2)), .int (xs (i + 3)), .ref od]) (rest := []) (w1 := rgW ad cy C ((dlF C k (gdF C k) (xs (i + 2)) (xs (i + 3)) ((N.1, 0), dpT T)).1.1) ((dlF C k (gdF C k) (xs (i + 2)) (xs (i + 3)) ((N.1, 0), dpT T)).1.2) (rn + 1) (mdW bd cy C (N, M) rn o2 c2 ([(od, .inl (cy 13, 1, .inr (.inl fo)))]))) (G := 5) S I (c_LrunX5 l hfl D cy _ ad bd C N T rn C (N, M) rn o2 c2 od fo k hk (xs (i + 2)) (xs (i + 3)) hkd) (vx_cwSW 5 hts (gx_S gL_law_L_run xw_good) rfl rfl rfl (by decide +kernel) ⟨(Nat.le_of_ble_eq_true rfl), (Nat.le_of_ble_eq_true rfl)⟩) rfl hl.1 rfl (Nat.le_of_ble_eq_true rfl) dL_law_192 ⟨by show 100 + i + 1 ≤ 603072; omega, by show 20000 + 8 * i + 8 ≤ 7223402; omega⟩ (fun H locs I => ?_)
              refine lv_istore (lv' := [(5, .int 5), (4, .int (nI i)), (3, .ref od), (2, .ref (bd 0)), (1, .ref (ad 0)), (0, .ref b)]) hx hb dL_law_195 hl (by decide) rfl (fun ls hl => ?_)
              refine lv_aload_n hx hb dL_law_197 rfl (lv_at hl 3 rfl) ?_
              refine lv_aload_n hx hb dL_law_198 rfl (lv_at hl 5 rfl) ?_
              refine lv_iload hx hb dL_law_199 (lv_at hl 1 rfl) ?_
              refine lv_iconst (v := 1) hx hb dL_law_201 (by decide) ?_
              refine lv_iadd hx hb dL_law_202 ?_
              refine k_scr (j := i + 1) (x := nI k) S I hX hbl (by omega) (nI_add i 1) (by omega) ek dL_law_203 ?_
              refine lv_aload_n hx hb dL_law_204 rfl (lv_at hl 5 rfl) ?_
              refine lv_iload hx hb dL_law_205 (lv_at hl 1 rfl) ?_
              refine lv_iconst (v := 2) hx hb dL_law_207 (by decide) ?_
              refine lv_iadd hx hb dL_law_208 ?_
              refine k_scr (j := i + 2) (x := xs (i + 2)) S I hX hbl (by omega) (nI_add i 2) (by omega) rfl dL_law_209 ?_
              refine lv_aload_n hx hb dL_law_210 rfl (lv_at hl 5 rfl) ?_
              refine lv_iload hx hb dL_law_211 (lv_at hl 1 rfl) ?_
              refine lv_iconst (v := 3) hx hb dL_law_213 (by decide) ?_
              refine lv_iadd hx hb dL_law_214 ?_
              refine k_scr (j := i + 3) (x := xs (i + 3)) S I hX hbl (by omega) (nI_add i 3) (by omega) rfl dL_law_215 ?_
              have I := I.sub (w1 := mdW bd cy C (N, M) rn o2 c2 (rgW ad cy C ((dlF C k (gdF C k) (xs (i + 2)) (xs (i + 3)) ((N.1, 0), dpT T)).1.1) ((dlF C k (gdF C k) (xs (i + 2)) (xs (i + 3)) ((N.1, 0), dpT T)).1.2) (rn + 1) ([(od, .inl (cy 13, 1, .inr (.inl fo)))]))) [13, 14, 15, 16, 17, 18, 19, 20, 21, 22, 0, 1, 2, 3, 4, 5, 6, 7, 8, 9, 10, 11, 12, 23] rfl rfl rfl
              refine k_Vl (q0 := 0) (As := [.int (nI k), .int (xs (i + 2)), .int (xs (i + 3))]) (rest := []) (w1 := mdW bd cy C ((dlF C k (gdF C k) (xs (i + 2)) (xs (i + 3)) ((N.1, 0), dpT T)).1.1, M1) (rn + 1) (nI j) (cdF (M1.1 j)) (rgW ad cy C ((dlF C k (gdF C k) (xs (i + 2)) (xs (i + 3)) ((N.1, 0), dpT T)).1.1) ((dlF C k (gdF C k) (xs (i + 2)) (xs (i + 3)) ((N.1, 0), dpT T)).1.2) (rn + 1) ([(od, .inl (cy 13, 1, .inr (.inl fo)))]))) (G := 0) S I (c_mrun1b l D cy _ bd C N M rn o2 c2 (rgW ad cy C ((dlF C k (gdF C k) (xs (i + 2)) (xs (i + 3)) ((N.1, 0), dpT T)).1.1) ((dlF C k (gdF C k) (xs (i + 2)) (xs (i + 3)) ((N.1, 0), dpT T)).1.2) (rn + 1) ([(od, .inl (cy 13, 1, .inr (.inl fo)))])) k hk (xs (i + 2)) (xs (i + 3)) ((dlF C k (gdF C k) (xs (i + 2)) (xs (i + 3)) ((N.1, 0), dpT T)).1.1, M1) j (by omega) hR) (cwV 3 hts (gx_L gL_law_X4_run) rfl rfl rfl (by decide +kernel) ⟨Nat.le_of_ble_eq_true rfl, Nat.le_of_ble_eq_true rfl⟩) rfl rfl rfl rfl hl.1 rfl (Nat.le_of_ble_eq_true rfl) dL_law_216 ⟨by show 100 + i + 1 + 0 ≤ 603072; omega, by show 20000 + 8 * i + 8 + 0 ≤ 7223402; omega⟩ (fun H locs I => ?_)
              refine lv_lstore (lv' := [(6, .long 0), (5, .int 5), (4, .int (nI i)), (3, .ref od), (2, .ref (bd 0)), (1, .ref (ad 0)), (0, .ref b)]) hx hb dL_law_219 hl (by decide) rfl (fun ls hl => ?_)
              refine lv_aload_n hx hb dL_law_221 rfl (lv_at hl 4 rfl) ?_
              refine k_Vi (q0 := 0) (As := []) (rest := []) (w1 := mdW bd cy C ((dlF C k (gdF C k) (xs (i + 2)) (xs (i + 3)) ((N.1, 0), dpT T)).1.1, M1) (rn + 1) (nI j) (cdF (M1.1 j)) (rgW ad cy C ((dlF C k (gdF C k) (xs (i + 2)) (xs (i + 3)) ((N.1, 0), dpT T)).1.1) ((dlF C k (gdF C k) (xs (i + 2)) (xs (i + 3)) ((N.1, 0), dpT T)).1.2) (rn + 1) ([(od, .inl (cy 13, 1, .inr (.inl fo)))]))) (G := (cdF (M1.1 j))) S I (c_thrown l D cy _ bd C ((dlF C k (gdF C k) (xs (i + 2)) (xs (i + 3)) ((N.1, 0), dpT T)).1.1, M1).1 ((dlF C k (gdF C k) (xs (i + 2)) (xs (i + 3)) ((N.1, 0), dpT T)).1.1, M1).2 (rn + 1) (nI j) (cdF (M1.1 j)) (rgW ad cy C ((dlF C k (gdF C k) (xs (i + 2)) (xs (i + 3)) ((N.1, 0), dpT T)).1.1) ((dlF C k (gdF C k) (xs (i + 2)) (xs (i + 3)) ((N.1, 0), dpT T)).1.2) (rn + 1) ([(od, .inl (cy 13, 1, .inr (.inl fo)))]))) (cwV 0 hts (gx_L gL_law_X4_thrown) rfl rfl rfl (by decide +kernel) ⟨Nat.le_of_ble_eq_true rfl, Nat.le_of_ble_eq_true rfl⟩) rfl rfl rfl rfl hl.1 rfl (Nat.le_of_ble_eq_true rfl) dL_law_222 ⟨by show 100 + i + 1 + 0 + 0 ≤ 603072; omega, by show 20000 + 8 * i + 8 + 0 + 0 ≤ 7223402; omega⟩ (fun H locs I => ?_)
              have I := I.sub (w1 := rgW ad cy C ((dlF C k (gdF C k) (xs (i + 2)) (xs (i + 3)) ((N.1, 0), dpT T)).1.1) ((dlF C k (gdF C k) (xs (i + 2)) (xs (i + 3)) ((N.1, 0), dpT T)).1.2) (rn + 1) (mdW bd cy C ((dlF C k (gdF C k) (xs (i + 2)) (xs (i + 3)) ((N.1, 0), dpT T)).1.1, M1) (rn + 1) (nI j) (cdF (M1.1 j)) ([(od, .inl (cy 13, 1, .inr (.inl fo)))]))) [10, 11, 12, 13, 14, 15, 16, 17, 18, 19, 20, 21, 22, 0, 1, 2, 3, 4, 5, 6, 7, 8, 9, 23] rfl rfl rfl
              refine lv_iload hx hb dL_law_225 (lv_at hl 1 rfl) ?_
              refine lv_icmp_eq (tgt := 232) hx hb dL_law_227 (by decide) (fun c_227 => ?_) (fun c_227 => ?_)
              · refine lv_iload hx hb dL_law_232 (lv_at hl 1 rfl) ?_
                refine lv_if_ne (tgt := 248) hx hb dL_law_234 (by decide) (fun c_234 => ?_) (fun c_234 => ?_)
                · refine lv_goto (tgt := 363) hx hb dL_law_248 (by decide) ?_
                  refine lv_iinc (v := (nI (i + 6))) (lv' := [(4, .int (nI (i + 6))), (6, .long 0), (5, .int 5), (3, .ref od), (2, .ref (bd 0)), (1, .ref (ad 0)), (0, .ref b)]) hx hb dL_law_363 hl (k := 2) rfl (nI_add i 6) (by decide) rfl (fun ls hl => ?_)
                  refine lv_goto (tgt := 23) hx hb dL_law_366 (by decide) ?_
                  refine W.widen (k := 100 + (i + 6)) (n := 20000 + 8 * (i + 6)) (by omega) (by omega) ?_
                  exact ih (i + 6) (by omega) (by omega) C ((dlF C k (gdF C k) (xs (i + 2)) (xs (i + 3)) ((N.1, 0), dpT T)).1.1) ((dlF C k (gdF C k) (xs (i + 2)) (xs (i + 3)) ((N.1, 0), dpT T)).1.2) ((dlF C k (gdF C k) (xs (i + 2)) (xs (i + 3)) ((N.1, 0), dpT T)).1.1, M1).2 (rn + 1) (nI j) (cdF (M1.1 j)) fo ⟨hn1, h7, hc1, hch, hkk⟩ _ _ I ls (lv_sub hl [0, 3, 4, 5, 6] rfl)
                · exact absurd c_234 (by decide)
              · exact absurd hcd c_227
      · refine lv_tableIn (tgt := 251) hx hb dL_law_39 (by rw [c_39]; decide) (by rw [c_39]; decide) (by rw [c_39]; rfl) (by decide) ?_
        by_cases hn : xs (i + 1) < 0 ∨ nI N.2 ≤ xs (i + 1) ∨ 64 ≤ xs (i + 1)
        · have hh := hn
          refine lv_aload_n hx hb dL_law_251 rfl (lv_at hl 3 rfl) ?_
          refine lv_aload_n hx hb dL_law_252 rfl (lv_at hl 4 rfl) ?_
          refine lv_iload hx hb dL_law_253 (lv_at hl 0 rfl) ?_
          refine lv_iconst (v := 1) hx hb dL_law_255 (by decide) ?_
          refine lv_iadd hx hb dL_law_256 ?_
          refine k_scr (j := i + 1) (x := xs (i + 1)) S I hX hbl (by omega) (nI_add i 1) (by omega) rfl dL_law_257 ?_
          refine lv_aload_n hx hb dL_law_258 rfl (lv_at hl 1 rfl) ?_
          refine k_SWi (As := [.ref (ad 0), .int (xs (i + 1)), .ref od]) (rest := []) (w1 := rgW ad cy C N T rn (mdW bd cy C (N, M) rn o2 c2 ([(od, .inl (cy 13, 1, .inr (.inl fo)))]))) (G := 1) S I (c_Lnote0 l hfl D cy _ ad bd C N T rn C (N, M) rn o2 c2 od fo hN5 (xs (i + 1)) hn) (vx_cwSW 3 hts (gx_S gL_law_L_note xw_good) rfl rfl rfl (by decide +kernel) ⟨(Nat.le_of_ble_eq_true rfl), (Nat.le_of_ble_eq_true rfl)⟩) rfl hl.1 rfl (Nat.le_of_ble_eq_true rfl) dL_law_259 ⟨by show 100 + i + 1 ≤ 603072; omega, by show 20000 + 8 * i + 8 ≤ 7223402; omega⟩ (fun H locs I => ?_)
          refine lv_istore (lv' := [(5, .int 1), (4, .int (nI i)), (3, .ref od), (2, .ref (bd 0)), (1, .ref (ad 0)), (0, .ref b)]) hx hb dL_law_262 hl (by decide) rfl (fun ls hl => ?_)
          refine lv_aload_n hx hb dL_law_264 rfl (lv_at hl 3 rfl) ?_
          refine lv_aload_n hx hb dL_law_265 rfl (lv_at hl 5 rfl) ?_
          refine lv_iload hx hb dL_law_266 (lv_at hl 1 rfl) ?_
          refine lv_iconst (v := 1) hx hb dL_law_268 (by decide) ?_
          refine lv_iadd hx hb dL_law_269 ?_
          refine k_scr (j := i + 1) (x := xs (i + 1)) S I hX hbl (by omega) (nI_add i 1) (by omega) rfl dL_law_270 ?_
          have I := I.sub (w1 := mdW bd cy C (N, M) rn o2 c2 (rgW ad cy C N T rn ([(od, .inl (cy 13, 1, .inr (.inl fo)))]))) [13, 14, 15, 16, 17, 18, 19, 20, 21, 22, 0, 1, 2, 3, 4, 5, 6, 7, 8, 9, 10, 11, 12, 23] rfl rfl rfl
          refine k_Vi (q0 := 0) (As := [.int (xs (i + 1))]) (rest := []) (w1 := mdW bd cy C (N, M) rn o2 1 (rgW ad cy C N T rn ([(od, .inl (cy 13, 1, .inr (.inl fo)))]))) (G := 0) S I (c_mnote0 l D cy _ bd C N M rn o2 c2 (rgW ad cy C N T rn ([(od, .inl (cy 13, 1, .inr (.inl fo)))])) (xs (i + 1)) hn) (cwV 1 hts (gx_L gL_law_X4_note) rfl rfl rfl (by decide +kernel) ⟨Nat.le_of_ble_eq_true rfl, Nat.le_of_ble_eq_true rfl⟩) rfl rfl rfl rfl hl.1 rfl (Nat.le_of_ble_eq_true rfl) dL_law_271 ⟨by show 100 + i + 1 + 0 ≤ 603072; omega, by show 20000 + 8 * i + 8 + 0 ≤ 7223402; omega⟩ (fun H locs I => ?_)
          refine lv_istore (lv' := [(6, .int 0), (5, .int 1), (4, .int (nI i)), (3, .ref od), (2, .ref (bd 0)), (1, .ref (ad 0)), (0, .ref b)]) hx hb dL_law_274 hl (by decide) rfl (fun ls hl => ?_)
          refine lv_aload_n hx hb dL_law_276 rfl (lv_at hl 4 rfl) ?_
          refine k_Vi (q0 := 0) (As := []) (rest := []) (w1 := mdW bd cy C (N, M) rn o2 1 (rgW ad cy C N T rn ([(od, .inl (cy 13, 1, .inr (.inl fo)))]))) (G := 1) S I (c_thrown l D cy _ bd C (N, M).1 (N, M).2 rn o2 1 (rgW ad cy C N T rn ([(od, .inl (cy 13, 1, .inr (.inl fo)))]))) (cwV 0 hts (gx_L gL_law_X4_thrown) rfl rfl rfl (by decide +kernel) ⟨Nat.le_of_ble_eq_true rfl, Nat.le_of_ble_eq_true rfl⟩) rfl rfl rfl rfl hl.1 rfl (Nat.le_of_ble_eq_true rfl) dL_law_277 ⟨by show 100 + i + 1 + 0 + 0 ≤ 603072; omega, by show 20000 + 8 * i + 8 + 0 + 0 ≤ 7223402; omega⟩ (fun H locs I => ?_)
          have I := I.sub (w1 := rgW ad cy C N T rn (mdW bd cy C (N, M) rn o2 1 ([(od, .inl (cy 13, 1, .inr (.inl fo)))]))) [10, 11, 12, 13, 14, 15, 16, 17, 18, 19, 20, 21, 22, 0, 1, 2, 3, 4, 5, 6, 7, 8, 9, 23] rfl rfl rfl
          refine lv_iload hx hb dL_law_280 (lv_at hl 1 rfl) ?_
          refine lv_icmp_eq (tgt := 287) hx hb dL_law_282 (by decide) (fun c_282 => ?_) (fun c_282 => ?_)
          · refine lv_iload hx hb dL_law_287 (lv_at hl 1 rfl) ?_
            refine lv_if_ne (tgt := 304) hx hb dL_law_289 (by decide) (fun c_289 => ?_) (fun c_289 => ?_)
            · refine lv_goto (tgt := 363) hx hb dL_law_304 (by decide) ?_
              refine lv_iinc (v := (nI (i + 6))) (lv' := [(4, .int (nI (i + 6))), (6, .int 0), (5, .int 1), (3, .ref od), (2, .ref (bd 0)), (1, .ref (ad 0)), (0, .ref b)]) hx hb dL_law_363 hl (k := 2) rfl (nI_add i 6) (by decide) rfl (fun ls hl => ?_)
              refine lv_goto (tgt := 23) hx hb dL_law_366 (by decide) ?_
              refine W.widen (k := 100 + (i + 6)) (n := 20000 + 8 * (i + 6)) (by omega) (by omega) ?_
              exact ih (i + 6) (by omega) (by omega) C N T (N, M).2 rn o2 1 fo hI _ _ I ls (lv_sub hl [0, 3, 4, 5, 6] rfl)
            · exact absurd c_289 (by decide)
          · exact absurd rfl c_282
        · obtain ⟨k, hk31, ek⟩ := nI_of (fun h => hn (Or.inl h))
          have h1 : k < N.2 := Nat.lt_of_not_le (fun q => hn (Or.inr (Or.inl (by rw [ek]; exact nI_le q hk31))))
          have h2 : k < 64 := Nat.lt_of_not_le (fun q => hn (Or.inr (Or.inr (by rw [ek]; exact (nI_le q hk31 : nI 64 ≤ nI k)))))
          refine lv_aload_n hx hb dL_law_251 rfl (lv_at hl 3 rfl) ?_
          refine lv_aload_n hx hb dL_law_252 rfl (lv_at hl 4 rfl) ?_
          refine lv_iload hx hb dL_law_253 (lv_at hl 0 rfl) ?_
          refine lv_iconst (v := 1) hx hb dL_law_255 (by decide) ?_
          refine lv_iadd hx hb dL_law_256 ?_
          refine k_scr (j := i + 1) (x := nI k) S I hX hbl (by omega) (nI_add i 1) (by omega) ek dL_law_257 ?_
          refine lv_aload_n hx hb dL_law_258 rfl (lv_at hl 1 rfl) ?_
          refine k_SWi (As := [.ref (ad 0), .int (nI k), .ref od]) (rest := []) (w1 := rgW ad cy C N T rn (mdW bd cy C (N, M) rn o2 c2 ([(od, .inl (cy 13, 1, .inr (.inl (vp_updL fo 0 ((N.1 k).toInt64)))))]))) (G := 0) S I (c_Lnote1 l hfl D cy _ ad bd C N T rn C (N, M) rn o2 c2 od fo hN5 k h1 h2) (vx_cwSW 3 hts (gx_L gL_law_L_note) rfl rfl rfl (by decide +kernel) ⟨(Nat.le_of_ble_eq_true rfl), (Nat.le_of_ble_eq_true rfl)⟩) rfl hl.1 rfl (Nat.le_of_ble_eq_true rfl) dL_law_259 ⟨by show 100 + i + 0 ≤ 603072; omega, by show 20000 + 8 * i + 0 ≤ 7223402; omega⟩ (fun H locs I => ?_)
          refine lv_istore (lv' := [(5, .int 0), (4, .int (nI i)), (3, .ref od), (2, .ref (bd 0)), (1, .ref (ad 0)), (0, .ref b)]) hx hb dL_law_262 hl (by decide) rfl (fun ls hl => ?_)
          refine lv_aload_n hx hb dL_law_264 rfl (lv_at hl 3 rfl) ?_
          refine lv_aload_n hx hb dL_law_265 rfl (lv_at hl 5 rfl) ?_
          refine lv_iload hx hb dL_law_266 (lv_at hl 1 rfl) ?_
          refine lv_iconst (v := 1) hx hb dL_law_268 (by decide) ?_
          refine lv_iadd hx hb dL_law_269 ?_
          refine k_scr (j := i + 1) (x := nI k) S I hX hbl (by omega) (nI_add i 1) (by omega) ek dL_law_270 ?_
          have I := I.sub (w1 := mdW bd cy C (N, M) rn o2 c2 (rgW ad cy C N T rn ([(od, .inl (cy 13, 1, .inr (.inl (vp_updL fo 0 ((N.1 k).toInt64)))))]))) [13, 14, 15, 16, 17, 18, 19, 20, 21, 22, 0, 1, 2, 3, 4, 5, 6, 7, 8, 9, 10, 11, 12, 23] rfl rfl rfl
          refine k_Vi (q0 := 0) (As := [.int (nI k)]) (rest := []) (w1 := mdW bd cy C (N, M) rn o2 0 (rgW ad cy C N T rn ([(od, .inl (cy 13, 1, .inr (.inl (vp_updL fo 0 ((N.1 k).toInt64)))))]))) (G := (N.1 k)) S I (c_mnote1 l D cy _ bd C N M rn o2 c2 (rgW ad cy C N T rn ([(od, .inl (cy 13, 1, .inr (.inl (vp_updL fo 0 ((N.1 k).toInt64)))))])) k h1 h2 hN5) (cwV 1 hts (gx_L gL_law_X4_note) rfl rfl rfl (by decide +kernel) ⟨Nat.le_of_ble_eq_true rfl, Nat.le_of_ble_eq_true rfl⟩) rfl rfl rfl rfl hl.1 rfl (Nat.le_of_ble_eq_true rfl) dL_law_271 ⟨by show 100 + i + 0 + 0 ≤ 603072; omega, by show 20000 + 8 * i + 0 + 0 ≤ 7223402; omega⟩ (fun H locs I => ?_)
          refine lv_istore (lv' := [(6, .int (N.1 k)), (5, .int 0), (4, .int (nI i)), (3, .ref od), (2, .ref (bd 0)), (1, .ref (ad 0)), (0, .ref b)]) hx hb dL_law_274 hl (by decide) rfl (fun ls hl => ?_)
          refine lv_aload_n hx hb dL_law_276 rfl (lv_at hl 4 rfl) ?_
          refine k_Vi (q0 := 0) (As := []) (rest := []) (w1 := mdW bd cy C (N, M) rn o2 0 (rgW ad cy C N T rn ([(od, .inl (cy 13, 1, .inr (.inl (vp_updL fo 0 ((N.1 k).toInt64)))))]))) (G := 0) S I (c_thrown l D cy _ bd C (N, M).1 (N, M).2 rn o2 0 (rgW ad cy C N T rn ([(od, .inl (cy 13, 1, .inr (.inl (vp_updL fo 0 ((N.1 k).toInt64)))))]))) (cwV 0 hts (gx_L gL_law_X4_thrown) rfl rfl rfl (by decide +kernel) ⟨Nat.le_of_ble_eq_true rfl, Nat.le_of_ble_eq_true rfl⟩) rfl rfl rfl rfl hl.1 rfl (Nat.le_of_ble_eq_true rfl) dL_law_277 ⟨by show 100 + i + 0 + 0 + 0 ≤ 603072; omega, by show 20000 + 8 * i + 0 + 0 + 0 ≤ 7223402; omega⟩ (fun H locs I => ?_)
          have I := I.sub (w1 := rgW ad cy C N T rn (mdW bd cy C (N, M) rn o2 0 ([(od, .inl (cy 13, 1, .inr (.inl (vp_updL fo 0 ((N.1 k).toInt64)))))]))) [10, 11, 12, 13, 14, 15, 16, 17, 18, 19, 20, 21, 22, 0, 1, 2, 3, 4, 5, 6, 7, 8, 9, 23] rfl rfl rfl
          refine lv_iload hx hb dL_law_280 (lv_at hl 1 rfl) ?_
          refine lv_icmp_eq (tgt := 287) hx hb dL_law_282 (by decide) (fun c_282 => ?_) (fun c_282 => ?_)
          · refine lv_iload hx hb dL_law_287 (lv_at hl 1 rfl) ?_
            refine lv_if_ne (tgt := 304) hx hb dL_law_289 (by decide) (fun c_289 => ?_) (fun c_289 => ?_)
            · exact absurd rfl c_289
            · refine lv_aload_n hx hb dL_law_292 rfl (lv_at hl 3 rfl) ?_
              refine lv_iconst (v := 0) hx hb dL_law_293 (by decide) ?_
              refine k_lald (q0 := 23) (t0 := 13) (j := 0) (n := 1) (x := (N.1 k).toInt64) S I rfl rfl (by decide) (by decide) rfl rfl dL_law_294 ?_
              refine lv_iload hx hb dL_law_295 (lv_at hl 0 rfl) ?_
              refine lv_i2l (v := (N.1 k).toInt64) hx hb dL_law_297 rfl ?_
              refine W.lcmp hx hb dL_law_298 ?_
              refine W.eq (congrArg (fun z => F0 m 299 ls [.int z]) ((lg_cmp_eq _ _).mpr rfl)) ?_
              refine lv_if_eq (tgt := 304) hx hb dL_law_299 (by decide) (fun c_299 => ?_) (fun c_299 => ?_)
              · refine lv_goto (tgt := 363) hx hb dL_law_304 (by decide) ?_
                refine lv_iinc (v := (nI (i + 6))) (lv' := [(4, .int (nI (i + 6))), (6, .int (N.1 k)), (5, .int 0), (3, .ref od), (2, .ref (bd 0)), (1, .ref (ad 0)), (0, .ref b)]) hx hb dL_law_363 hl (k := 2) rfl (nI_add i 6) (by decide) rfl (fun ls hl => ?_)
                refine lv_goto (tgt := 23) hx hb dL_law_366 (by decide) ?_
                refine W.widen (k := 100 + (i + 6)) (n := 20000 + 8 * (i + 6)) (by omega) (by omega) ?_
                exact ih (i + 6) (by omega) (by omega) C N T (N, M).2 rn o2 0 (vp_updL fo 0 ((N.1 k).toInt64)) hI _ _ I ls (lv_sub hl [0, 3, 4, 5, 6] rfl)
              · exact absurd rfl c_299
          · exact absurd rfl c_282
      · refine lv_tableIn (tgt := 307) hx hb dL_law_39 (by rw [c_39]; decide) (by rw [c_39]; decide) (by rw [c_39]; rfl) (by decide) ?_
        by_cases hn : xs (i + 1) < 0 ∨ 6 < xs (i + 1)
        · have hh := hn
          refine lv_aload_n hx hb dL_law_307 rfl (lv_at hl 3 rfl) ?_
          refine lv_aload_n hx hb dL_law_308 rfl (lv_at hl 4 rfl) ?_
          refine lv_iload hx hb dL_law_309 (lv_at hl 0 rfl) ?_
          refine lv_iconst (v := 1) hx hb dL_law_311 (by decide) ?_
          refine lv_iadd hx hb dL_law_312 ?_
          refine k_scr (j := i + 1) (x := xs (i + 1)) S I hX hbl (by omega) (nI_add i 1) (by omega) rfl dL_law_313 ?_
          refine lv_aload_n hx hb dL_law_314 rfl (lv_at hl 1 rfl) ?_
          refine k_SWi (As := [.ref (ad 0), .int (xs (i + 1)), .ref od]) (rest := []) (w1 := rgW ad cy C N T rn (mdW bd cy C (N, M) rn o2 c2 ([(od, .inl (cy 13, 1, .inr (.inl fo)))]))) (G := 1) S I (c_Lcount0 l hfl D cy _ ad bd C N T rn C (N, M) rn o2 c2 od fo (xs (i + 1)) hn) (vx_cwSW 3 hts (gx_S gL_law_L_count xw_good) rfl rfl rfl (by decide +kernel) ⟨(Nat.le_of_ble_eq_true rfl), (Nat.le_of_ble_eq_true rfl)⟩) rfl hl.1 rfl (Nat.le_of_ble_eq_true rfl) dL_law_315 ⟨by show 100 + i + 1 ≤ 603072; omega, by show 20000 + 8 * i + 8 ≤ 7223402; omega⟩ (fun H locs I => ?_)
          refine lv_istore (lv' := [(5, .int 1), (4, .int (nI i)), (3, .ref od), (2, .ref (bd 0)), (1, .ref (ad 0)), (0, .ref b)]) hx hb dL_law_318 hl (by decide) rfl (fun ls hl => ?_)
          refine lv_aload_n hx hb dL_law_320 rfl (lv_at hl 3 rfl) ?_
          refine lv_aload_n hx hb dL_law_321 rfl (lv_at hl 5 rfl) ?_
          refine lv_iload hx hb dL_law_322 (lv_at hl 1 rfl) ?_
          refine lv_iconst (v := 1) hx hb dL_law_324 (by decide) ?_
          refine lv_iadd hx hb dL_law_325 ?_
          refine k_scr (j := i + 1) (x := xs (i + 1)) S I hX hbl (by omega) (nI_add i 1) (by omega) rfl dL_law_326 ?_
          have I := I.sub (w1 := mdW bd cy C (N, M) rn o2 c2 (rgW ad cy C N T rn ([(od, .inl (cy 13, 1, .inr (.inl fo)))]))) [13, 14, 15, 16, 17, 18, 19, 20, 21, 22, 0, 1, 2, 3, 4, 5, 6, 7, 8, 9, 10, 11, 12, 23] rfl rfl rfl
          refine k_Vi (q0 := 0) (As := [.int (xs (i + 1))]) (rest := []) (w1 := mdW bd cy C (N, M) rn o2 1 (rgW ad cy C N T rn ([(od, .inl (cy 13, 1, .inr (.inl fo)))]))) (G := 0) S I (c_mcount0 l D cy _ bd C N M rn o2 c2 (rgW ad cy C N T rn ([(od, .inl (cy 13, 1, .inr (.inl fo)))])) (xs (i + 1)) hn) (cwV 1 hts (gx_L gL_law_X4_count) rfl rfl rfl (by decide +kernel) ⟨Nat.le_of_ble_eq_true rfl, Nat.le_of_ble_eq_true rfl⟩) rfl rfl rfl rfl hl.1 rfl (Nat.le_of_ble_eq_true rfl) dL_law_327 ⟨by show 100 + i + 1 + 0 ≤ 603072; omega, by show 20000 + 8 * i + 8 + 0 ≤ 7223402; omega⟩ (fun H locs I => ?_)
          refine lv_istore (lv' := [(6, .int 0), (5, .int 1), (4, .int (nI i)), (3, .ref od), (2, .ref (bd 0)), (1, .ref (ad 0)), (0, .ref b)]) hx hb dL_law_330 hl (by decide) rfl (fun ls hl => ?_)
          refine lv_aload_n hx hb dL_law_332 rfl (lv_at hl 4 rfl) ?_
          refine k_Vi (q0 := 0) (As := []) (rest := []) (w1 := mdW bd cy C (N, M) rn o2 1 (rgW ad cy C N T rn ([(od, .inl (cy 13, 1, .inr (.inl fo)))]))) (G := 1) S I (c_thrown l D cy _ bd C (N, M).1 (N, M).2 rn o2 1 (rgW ad cy C N T rn ([(od, .inl (cy 13, 1, .inr (.inl fo)))]))) (cwV 0 hts (gx_L gL_law_X4_thrown) rfl rfl rfl (by decide +kernel) ⟨Nat.le_of_ble_eq_true rfl, Nat.le_of_ble_eq_true rfl⟩) rfl rfl rfl rfl hl.1 rfl (Nat.le_of_ble_eq_true rfl) dL_law_333 ⟨by show 100 + i + 1 + 0 + 0 ≤ 603072; omega, by show 20000 + 8 * i + 8 + 0 + 0 ≤ 7223402; omega⟩ (fun H locs I => ?_)
          have I := I.sub (w1 := rgW ad cy C N T rn (mdW bd cy C (N, M) rn o2 1 ([(od, .inl (cy 13, 1, .inr (.inl fo)))]))) [10, 11, 12, 13, 14, 15, 16, 17, 18, 19, 20, 21, 22, 0, 1, 2, 3, 4, 5, 6, 7, 8, 9, 23] rfl rfl rfl
          refine lv_iload hx hb dL_law_336 (lv_at hl 1 rfl) ?_
          refine lv_icmp_eq (tgt := 343) hx hb dL_law_338 (by decide) (fun c_338 => ?_) (fun c_338 => ?_)
          · refine lv_iload hx hb dL_law_343 (lv_at hl 1 rfl) ?_
            refine lv_if_ne (tgt := 360) hx hb dL_law_345 (by decide) (fun c_345 => ?_) (fun c_345 => ?_)
            · refine lv_goto (tgt := 363) hx hb dL_law_360 (by decide) ?_
              refine lv_iinc (v := (nI (i + 6))) (lv' := [(4, .int (nI (i + 6))), (6, .int 0), (5, .int 1), (3, .ref od), (2, .ref (bd 0)), (1, .ref (ad 0)), (0, .ref b)]) hx hb dL_law_363 hl (k := 2) rfl (nI_add i 6) (by decide) rfl (fun ls hl => ?_)
              refine lv_goto (tgt := 23) hx hb dL_law_366 (by decide) ?_
              refine W.widen (k := 100 + (i + 6)) (n := 20000 + 8 * (i + 6)) (by omega) (by omega) ?_
              exact ih (i + 6) (by omega) (by omega) C N T (N, M).2 rn o2 1 fo hI _ _ I ls (lv_sub hl [0, 3, 4, 5, 6] rfl)
            · exact absurd c_345 (by decide)
          · exact absurd rfl c_338
        · have hx1 : ¬ xs (i + 1) < 0 ∧ ¬ 6 < xs (i + 1) := ⟨fun h => hn (Or.inl h), fun h => hn (Or.inr h)⟩
          by_cases hz : T.2.2 = 0
          · have eo : o2 = -1 := by have := hI.2.2.2.1; rw [hz] at this; exact this
            subst eo
            refine lv_aload_n hx hb dL_law_307 rfl (lv_at hl 3 rfl) ?_
            refine lv_aload_n hx hb dL_law_308 rfl (lv_at hl 4 rfl) ?_
            refine lv_iload hx hb dL_law_309 (lv_at hl 0 rfl) ?_
            refine lv_iconst (v := 1) hx hb dL_law_311 (by decide) ?_
            refine lv_iadd hx hb dL_law_312 ?_
            refine k_scr (j := i + 1) (x := xs (i + 1)) S I hX hbl (by omega) (nI_add i 1) (by omega) rfl dL_law_313 ?_
            refine lv_aload_n hx hb dL_law_314 rfl (lv_at hl 1 rfl) ?_
            refine k_SWi (As := [.ref (ad 0), .int (xs (i + 1)), .ref od]) (rest := []) (w1 := rgW ad cy C N T rn (mdW bd cy C (N, M) rn (-1) c2 ([(od, .inl (cy 13, 1, .inr (.inl (vp_updL fo 0 ((cnF N T rn (xs (i + 1))).toInt64)))))]))) (G := 0) S I (c_Lcount1 l hfl D cy _ ad bd C N T rn C (N, M) rn (-1) c2 od fo hI.2.1 (xs (i + 1)) hx1) (vx_cwSW 3 hts (gx_L gL_law_L_count) rfl rfl rfl (by decide +kernel) ⟨(Nat.le_of_ble_eq_true rfl), (Nat.le_of_ble_eq_true rfl)⟩) rfl hl.1 rfl (Nat.le_of_ble_eq_true rfl) dL_law_315 ⟨by show 100 + i + 0 ≤ 603072; omega, by show 20000 + 8 * i + 0 ≤ 7223402; omega⟩ (fun H locs I => ?_)
            refine lv_istore (lv' := [(5, .int 0), (4, .int (nI i)), (3, .ref od), (2, .ref (bd 0)), (1, .ref (ad 0)), (0, .ref b)]) hx hb dL_law_318 hl (by decide) rfl (fun ls hl => ?_)
            refine lv_aload_n hx hb dL_law_320 rfl (lv_at hl 3 rfl) ?_
            refine lv_aload_n hx hb dL_law_321 rfl (lv_at hl 5 rfl) ?_
            refine lv_iload hx hb dL_law_322 (lv_at hl 1 rfl) ?_
            refine lv_iconst (v := 1) hx hb dL_law_324 (by decide) ?_
            refine lv_iadd hx hb dL_law_325 ?_
            refine k_scr (j := i + 1) (x := xs (i + 1)) S I hX hbl (by omega) (nI_add i 1) (by omega) rfl dL_law_326 ?_
            have I := I.sub (w1 := mdW bd cy C (N, M) rn (-1) c2 (rgW ad cy C N T rn ([(od, .inl (cy 13, 1, .inr (.inl (vp_updL fo 0 ((cnF N T rn (xs (i + 1))).toInt64)))))]))) [13, 14, 15, 16, 17, 18, 19, 20, 21, 22, 0, 1, 2, 3, 4, 5, 6, 7, 8, 9, 10, 11, 12, 23] rfl rfl rfl
            refine k_Vi (q0 := 0) (As := [.int (xs (i + 1))]) (rest := []) (w1 := mdW bd cy C (N, M) rn (-1) 0 (rgW ad cy C N T rn ([(od, .inl (cy 13, 1, .inr (.inl (vp_updL fo 0 ((cnF N T rn (xs (i + 1))).toInt64)))))]))) (G := (cnF N T rn (xs (i + 1)))) S I (c_mcount1a l D cy _ bd C N M rn c2 (rgW ad cy C N T rn ([(od, .inl (cy 13, 1, .inr (.inl (vp_updL fo 0 ((cnF N T rn (xs (i + 1))).toInt64)))))])) (xs (i + 1)) hx1 T hz) (cwV 1 hts (gx_L gL_law_X4_count) rfl rfl rfl (by decide +kernel) ⟨Nat.le_of_ble_eq_true rfl, Nat.le_of_ble_eq_true rfl⟩) rfl rfl rfl rfl hl.1 rfl (Nat.le_of_ble_eq_true rfl) dL_law_327 ⟨by show 100 + i + 0 + 0 ≤ 603072; omega, by show 20000 + 8 * i + 0 + 0 ≤ 7223402; omega⟩ (fun H locs I => ?_)
            refine lv_istore (lv' := [(6, .int (cnF N T rn (xs (i + 1)))), (5, .int 0), (4, .int (nI i)), (3, .ref od), (2, .ref (bd 0)), (1, .ref (ad 0)), (0, .ref b)]) hx hb dL_law_330 hl (by decide) rfl (fun ls hl => ?_)
            refine lv_aload_n hx hb dL_law_332 rfl (lv_at hl 4 rfl) ?_
            refine k_Vi (q0 := 0) (As := []) (rest := []) (w1 := mdW bd cy C (N, M) rn (-1) 0 (rgW ad cy C N T rn ([(od, .inl (cy 13, 1, .inr (.inl (vp_updL fo 0 ((cnF N T rn (xs (i + 1))).toInt64)))))]))) (G := 0) S I (c_thrown l D cy _ bd C (N, M).1 (N, M).2 rn (-1) 0 (rgW ad cy C N T rn ([(od, .inl (cy 13, 1, .inr (.inl (vp_updL fo 0 ((cnF N T rn (xs (i + 1))).toInt64)))))]))) (cwV 0 hts (gx_L gL_law_X4_thrown) rfl rfl rfl (by decide +kernel) ⟨Nat.le_of_ble_eq_true rfl, Nat.le_of_ble_eq_true rfl⟩) rfl rfl rfl rfl hl.1 rfl (Nat.le_of_ble_eq_true rfl) dL_law_333 ⟨by show 100 + i + 0 + 0 + 0 ≤ 603072; omega, by show 20000 + 8 * i + 0 + 0 + 0 ≤ 7223402; omega⟩ (fun H locs I => ?_)
            have I := I.sub (w1 := rgW ad cy C N T rn (mdW bd cy C (N, M) rn (-1) 0 ([(od, .inl (cy 13, 1, .inr (.inl (vp_updL fo 0 ((cnF N T rn (xs (i + 1))).toInt64)))))]))) [10, 11, 12, 13, 14, 15, 16, 17, 18, 19, 20, 21, 22, 0, 1, 2, 3, 4, 5, 6, 7, 8, 9, 23] rfl rfl rfl
            refine lv_iload hx hb dL_law_336 (lv_at hl 1 rfl) ?_
            refine lv_icmp_eq (tgt := 343) hx hb dL_law_338 (by decide) (fun c_338 => ?_) (fun c_338 => ?_)
            · refine lv_iload hx hb dL_law_343 (lv_at hl 1 rfl) ?_
              refine lv_if_ne (tgt := 360) hx hb dL_law_345 (by decide) (fun c_345 => ?_) (fun c_345 => ?_)
              · exact absurd rfl c_345
              · refine lv_aload_n hx hb dL_law_348 rfl (lv_at hl 3 rfl) ?_
                refine lv_iconst (v := 0) hx hb dL_law_349 (by decide) ?_
                refine k_lald (q0 := 23) (t0 := 13) (j := 0) (n := 1) (x := (cnF N T rn (xs (i + 1))).toInt64) S I rfl rfl (by decide) (by decide) rfl rfl dL_law_350 ?_
                refine lv_iload hx hb dL_law_351 (lv_at hl 0 rfl) ?_
                refine lv_i2l (v := (cnF N T rn (xs (i + 1))).toInt64) hx hb dL_law_353 rfl ?_
                refine W.lcmp hx hb dL_law_354 ?_
                refine W.eq (congrArg (fun z => F0 m 355 ls [.int z]) ((lg_cmp_eq _ _).mpr rfl)) ?_
                refine lv_if_eq (tgt := 360) hx hb dL_law_355 (by decide) (fun c_355 => ?_) (fun c_355 => ?_)
                · refine lv_goto (tgt := 363) hx hb dL_law_360 (by decide) ?_
                  refine lv_iinc (v := (nI (i + 6))) (lv' := [(4, .int (nI (i + 6))), (6, .int (cnF N T rn (xs (i + 1)))), (5, .int 0), (3, .ref od), (2, .ref (bd 0)), (1, .ref (ad 0)), (0, .ref b)]) hx hb dL_law_363 hl (k := 2) rfl (nI_add i 6) (by decide) rfl (fun ls hl => ?_)
                  refine lv_goto (tgt := 23) hx hb dL_law_366 (by decide) ?_
                  refine W.widen (k := 100 + (i + 6)) (n := 20000 + 8 * (i + 6)) (by omega) (by omega) ?_
                  exact ih (i + 6) (by omega) (by omega) C N T (N, M).2 rn (-1) 0 (vp_updL fo 0 ((cnF N T rn (xs (i + 1))).toInt64)) hI _ _ I ls (lv_sub hl [0, 3, 4, 5, 6] rfl)
                · exact absurd rfl c_355
            · exact absurd rfl c_338
          · obtain ⟨n9, hn9⟩ := Nat.exists_eq_succ_of_ne_zero hz
            have hch := hI.2.2.2.1
            rw [hn9] at hch
            obtain ⟨j, ej, lj, kj, nj, cj⟩ := hch
            subst ej
            refine lv_aload_n hx hb dL_law_307 rfl (lv_at hl 3 rfl) ?_
            refine lv_aload_n hx hb dL_law_308 rfl (lv_at hl 4 rfl) ?_
            refine lv_iload hx hb dL_law_309 (lv_at hl 0 rfl) ?_
            refine lv_iconst (v := 1) hx hb dL_law_311 (by decide) ?_
            refine lv_iadd hx hb dL_law_312 ?_
            refine k_scr (j := i + 1) (x := xs (i + 1)) S I hX hbl (by omega) (nI_add i 1) (by omega) rfl dL_law_313 ?_
            refine lv_aload_n hx hb dL_law_314 rfl (lv_at hl 1 rfl) ?_
            refine k_SWi (As := [.ref (ad 0), .int (xs (i + 1)), .ref od]) (rest := []) (w1 := rgW ad cy C N T rn (mdW bd cy C (N, M) rn (nI j) c2 ([(od, .inl (cy 13, 1, .inr (.inl (vp_updL fo 0 ((cnF N T rn (xs (i + 1))).toInt64)))))]))) (G := 0) S I (c_Lcount1 l hfl D cy _ ad bd C N T rn C (N, M) rn (nI j) c2 od fo hI.2.1 (xs (i + 1)) hx1) (vx_cwSW 3 hts (gx_L gL_law_L_count) rfl rfl rfl (by decide +kernel) ⟨(Nat.le_of_ble_eq_true rfl), (Nat.le_of_ble_eq_true rfl)⟩) rfl hl.1 rfl (Nat.le_of_ble_eq_true rfl) dL_law_315 ⟨by show 100 + i + 0 ≤ 603072; omega, by show 20000 + 8 * i + 0 ≤ 7223402; omega⟩ (fun H locs I => ?_)
            refine lv_istore (lv' := [(5, .int 0), (4, .int (nI i)), (3, .ref od), (2, .ref (bd 0)), (1, .ref (ad 0)), (0, .ref b)]) hx hb dL_law_318 hl (by decide) rfl (fun ls hl => ?_)
            refine lv_aload_n hx hb dL_law_320 rfl (lv_at hl 3 rfl) ?_
            refine lv_aload_n hx hb dL_law_321 rfl (lv_at hl 5 rfl) ?_
            refine lv_iload hx hb dL_law_322 (lv_at hl 1 rfl) ?_
            refine lv_iconst (v := 1) hx hb dL_law_324 (by decide) ?_
            refine lv_iadd hx hb dL_law_325 ?_
            refine k_scr (j := i + 1) (x := xs (i + 1)) S I hX hbl (by omega) (nI_add i 1) (by omega) rfl dL_law_326 ?_
            have I := I.sub (w1 := mdW bd cy C (N, M) rn (nI j) c2 (rgW ad cy C N T rn ([(od, .inl (cy 13, 1, .inr (.inl (vp_updL fo 0 ((cnF N T rn (xs (i + 1))).toInt64)))))]))) [13, 14, 15, 16, 17, 18, 19, 20, 21, 22, 0, 1, 2, 3, 4, 5, 6, 7, 8, 9, 10, 11, 12, 23] rfl rfl rfl
            refine k_Vi (q0 := 0) (As := [.int (xs (i + 1))]) (rest := []) (w1 := mdW bd cy C (N, M) rn (nI j) 0 (rgW ad cy C N T rn ([(od, .inl (cy 13, 1, .inr (.inl (vp_updL fo 0 ((cnF N T rn (xs (i + 1))).toInt64)))))]))) (G := (cnF N T rn (xs (i + 1)))) S I (c_mcount1b l D cy _ bd C N M rn c2 (rgW ad cy C N T rn ([(od, .inl (cy 13, 1, .inr (.inl (vp_updL fo 0 ((cnF N T rn (xs (i + 1))).toInt64)))))])) (xs (i + 1)) hx1 T hI.2.1 (Nat.le_trans hI.2.2.1 (by decide)) n9 hn9 j lj kj nj cj) (cwV 1 hts (gx_L gL_law_X4_count) rfl rfl rfl (by decide +kernel) ⟨Nat.le_of_ble_eq_true rfl, Nat.le_of_ble_eq_true rfl⟩) rfl rfl rfl rfl hl.1 rfl (Nat.le_of_ble_eq_true rfl) dL_law_327 ⟨by show 100 + i + 0 + 0 ≤ 603072; omega, by show 20000 + 8 * i + 0 + 0 ≤ 7223402; omega⟩ (fun H locs I => ?_)
            refine lv_istore (lv' := [(6, .int (cnF N T rn (xs (i + 1)))), (5, .int 0), (4, .int (nI i)), (3, .ref od), (2, .ref (bd 0)), (1, .ref (ad 0)), (0, .ref b)]) hx hb dL_law_330 hl (by decide) rfl (fun ls hl => ?_)
            refine lv_aload_n hx hb dL_law_332 rfl (lv_at hl 4 rfl) ?_
            refine k_Vi (q0 := 0) (As := []) (rest := []) (w1 := mdW bd cy C (N, M) rn (nI j) 0 (rgW ad cy C N T rn ([(od, .inl (cy 13, 1, .inr (.inl (vp_updL fo 0 ((cnF N T rn (xs (i + 1))).toInt64)))))]))) (G := 0) S I (c_thrown l D cy _ bd C (N, M).1 (N, M).2 rn (nI j) 0 (rgW ad cy C N T rn ([(od, .inl (cy 13, 1, .inr (.inl (vp_updL fo 0 ((cnF N T rn (xs (i + 1))).toInt64)))))]))) (cwV 0 hts (gx_L gL_law_X4_thrown) rfl rfl rfl (by decide +kernel) ⟨Nat.le_of_ble_eq_true rfl, Nat.le_of_ble_eq_true rfl⟩) rfl rfl rfl rfl hl.1 rfl (Nat.le_of_ble_eq_true rfl) dL_law_333 ⟨by show 100 + i + 0 + 0 + 0 ≤ 603072; omega, by show 20000 + 8 * i + 0 + 0 + 0 ≤ 7223402; omega⟩ (fun H locs I => ?_)
            have I := I.sub (w1 := rgW ad cy C N T rn (mdW bd cy C (N, M) rn (nI j) 0 ([(od, .inl (cy 13, 1, .inr (.inl (vp_updL fo 0 ((cnF N T rn (xs (i + 1))).toInt64)))))]))) [10, 11, 12, 13, 14, 15, 16, 17, 18, 19, 20, 21, 22, 0, 1, 2, 3, 4, 5, 6, 7, 8, 9, 23] rfl rfl rfl
            refine lv_iload hx hb dL_law_336 (lv_at hl 1 rfl) ?_
            refine lv_icmp_eq (tgt := 343) hx hb dL_law_338 (by decide) (fun c_338 => ?_) (fun c_338 => ?_)
            · refine lv_iload hx hb dL_law_343 (lv_at hl 1 rfl) ?_
              refine lv_if_ne (tgt := 360) hx hb dL_law_345 (by decide) (fun c_345 => ?_) (fun c_345 => ?_)
              · exact absurd rfl c_345
              · refine lv_aload_n hx hb dL_law_348 rfl (lv_at hl 3 rfl) ?_
                refine lv_iconst (v := 0) hx hb dL_law_349 (by decide) ?_
                refine k_lald (q0 := 23) (t0 := 13) (j := 0) (n := 1) (x := (cnF N T rn (xs (i + 1))).toInt64) S I rfl rfl (by decide) (by decide) rfl rfl dL_law_350 ?_
                refine lv_iload hx hb dL_law_351 (lv_at hl 0 rfl) ?_
                refine lv_i2l (v := (cnF N T rn (xs (i + 1))).toInt64) hx hb dL_law_353 rfl ?_
                refine W.lcmp hx hb dL_law_354 ?_
                refine W.eq (congrArg (fun z => F0 m 355 ls [.int z]) ((lg_cmp_eq _ _).mpr rfl)) ?_
                refine lv_if_eq (tgt := 360) hx hb dL_law_355 (by decide) (fun c_355 => ?_) (fun c_355 => ?_)
                · refine lv_goto (tgt := 363) hx hb dL_law_360 (by decide) ?_
                  refine lv_iinc (v := (nI (i + 6))) (lv' := [(4, .int (nI (i + 6))), (6, .int (cnF N T rn (xs (i + 1)))), (5, .int 0), (3, .ref od), (2, .ref (bd 0)), (1, .ref (ad 0)), (0, .ref b)]) hx hb dL_law_363 hl (k := 2) rfl (nI_add i 6) (by decide) rfl (fun ls hl => ?_)
                  refine lv_goto (tgt := 23) hx hb dL_law_366 (by decide) ?_
                  refine W.widen (k := 100 + (i + 6)) (n := 20000 + 8 * (i + 6)) (by omega) (by omega) ?_
                  exact ih (i + 6) (by omega) (by omega) C N T (N, M).2 rn (nI j) 0 (vp_updL fo 0 ((cnF N T rn (xs (i + 1))).toInt64)) hI _ _ I ls (lv_sub hl [0, 3, 4, 5, 6] rfl)
                · exact absurd rfl c_355
            · exact absurd rfl c_338
set_option maxHeartbeats 40000000 in
set_option maxRecDepth 100000 in
/-- THE LAW, from its entry -/
theorem whole_start {p : Program} {e : Env} {s : State} {m : MethodId} {below : List Frame} {meth : Method} {c : Code} (l : Launch) (hflags : l.flags = flags0) {b L : Nat} {xs : Nat → Int32} (hL : L ≤ 3072) (C0 : lw_At p s m meth c b L xs) : W p l e room_1 s m #[Value.ref b] below meth c s.heap [] 0 0 (lw_Z below #[Value.ref b] s) (entryFrame m ([Value.ref b] : List Value).toArray 8) := by
  obtain ⟨D, cy, I⟩ := law_env C0
  obtain ⟨hx, hb, hr, hml, hown, htb, hX, hbl, hlocks, hgv⟩ := id C0
  have hts : ∀ w ∈ wtL_law, w.before #[Value.ref b] s = true := fun w h => htb w (wtL_law_in w h)
  have S : CallFix p m c cL_law 8 s #[Value.ref b] wtL_law RL := ⟨hx, hb, hml, hown, hts⟩
  have hfl : l.stackTraces = false := by show (!l.flags.contains noTraceFlag) = false; rw [hflags]; decide +kernel
  have hl := lv_entry ([.ref b]) (n := 8) (Nat.le_of_ble_eq_true rfl)
  rw [lg_entry_eq]
  generalize (lg_sl ([.ref b]) ++ List.replicate (8 - (lg_sl ([.ref b])).length) Slot.unset).toArray = ls at hl ⊢
  have hl : lv_has ls 8 [(0, .ref b)] := hl
  refine k_new (C := RX3) (T := TX3) (N := 4) (ci := 3) (fs := [.null, .null, .null, .int 0]) (wf := fun h => [(h, .inr (3, [.null, .null, .null, .int 0]))]) S I il_X3 tyX3 tyX3_ok (List.mem_append_left _ (by decide +kernel)) (List.mem_append_left _ (by decide +kernel)) (List.mem_append_left _ (by decide +kernel)) rfl (fun j hj => by match j, hj with | 0, _ => rfl | 1, _ => rfl | 2, _ => rfl | 3, _ => rfl) (Nat.le_of_ble_eq_true rfl) (Nat.le_of_ble_eq_true rfl) (fun _ => rfl) dL_law_0 (fun h H I => ?_)
  refine lv_dup hx hb dL_law_3 rfl ?_
  refine k_II (As := []) (rest := [.ref h]) S I (c_Rinit l D cy _ h) (cwI 0 hts (gx_L gL_law_X3_init) rfl rfl rfl (hts (.initialized RX3) (List.mem_append_left _ (by decide +kernel))) (hts (.methodLink RL 34 yX3_init) (List.mem_append_left _ (by decide +kernel))) (hts (.instanceMethod yX3_init) (List.mem_append_left _ (by decide +kernel))) rfl (by decide +kernel) ⟨(Nat.le_of_ble_eq_true rfl), (Nat.le_of_ble_eq_true rfl)⟩) rfl hl.1 rfl (Nat.le_of_ble_eq_true rfl) dL_law_4 ⟨(Nat.le_of_ble_eq_true rfl), (Nat.le_of_ble_eq_true rfl)⟩ (fun ad H locs h9 I2 => ?_)
  subst h9
  have I := I2
  refine lv_astore_n (lv' := [(1, .ref (ad 0)), (0, .ref b)]) hx hb dL_law_7 rfl hl (by decide) rfl (fun ls hl => ?_)
  have I := I.to (w1 := rgW ad cy rC0 rN0 rT0 0 []) rfl
  refine k_new (ww := rgW ad cy rC0 rN0 rT0 0 []) (C := RX4) (T := TX4) (N := 15) (ci := 4) (fs := [.null, .null, .null, .null, .null, .int 0, .int 0, .null, .null, .null, .int 0, .long 0, .int 0, .int 0, .null]) (wf := fun h => rgW ad cy rC0 rN0 rT0 0 [(h, .inr (4, [.null, .null, .null, .null, .null, .int 0, .int 0, .null, .null, .null, .int 0, .long 0, .int 0, .int 0, .null]))]) S I il_X4 tyX4 tyX4_ok (List.mem_append_left _ (by decide +kernel)) (List.mem_append_left _ (by decide +kernel)) (List.mem_append_left _ (by decide +kernel)) rfl (fun j hj => by match j, hj with | 0, _ => rfl | 1, _ => rfl | 2, _ => rfl | 3, _ => rfl | 4, _ => rfl | 5, _ => rfl | 6, _ => rfl | 7, _ => rfl | 8, _ => rfl | 9, _ => rfl | 10, _ => rfl | 11, _ => rfl | 12, _ => rfl | 13, _ => rfl | 14, _ => rfl) (Nat.le_of_ble_eq_true rfl) (Nat.le_of_ble_eq_true rfl) (fun _ => rfl) dL_law_8 (fun h H I => ?_)
  have I := I.sub (w1 := (h, .inr (4, [.null, .null, .null, .null, .null, .int 0, .int 0, .null, .null, .null, .int 0, .long 0, .int 0, .int 0, .null])) :: rgW ad cy rC0 rN0 rT0 0 []) [13, 0, 1, 2, 3, 4, 5, 6, 7, 8, 9, 10, 11, 12] rfl rfl rfl
  refine lv_dup hx hb dL_law_11 rfl ?_
  refine k_II (As := []) (rest := [.ref h]) S I (c_Minit l D cy _ (rgW ad cy rC0 rN0 rT0 0 []) h) (cwI 0 hts (gx_L gL_law_X4_init) rfl rfl rfl (hts (.initialized RX4) (List.mem_append_left _ (by decide +kernel))) (hts (.methodLink RL 37 yX4_init) (List.mem_append_left _ (by decide +kernel))) (hts (.instanceMethod yX4_init) (List.mem_append_left _ (by decide +kernel))) rfl (by decide +kernel) ⟨(Nat.le_of_ble_eq_true rfl), (Nat.le_of_ble_eq_true rfl)⟩) rfl hl.1 rfl (Nat.le_of_ble_eq_true rfl) dL_law_12 ⟨(Nat.le_of_ble_eq_true rfl), (Nat.le_of_ble_eq_true rfl)⟩ (fun bd H locs h9 I2 => ?_)
  subst h9
  have I := I2
  have I := I.sub (w1 := rgW ad cy rC0 rN0 rT0 0 (mdW bd cy rC0 (rN0, ((fun _ => 0), (fun _ => 0), (fun _ => 0), 0, 0, (fun _ => 0))) 0 (-1) 0 [])) [1, 2, 3, 4, 5, 6, 7, 8, 9, 10, 11, 12, 13, 0, 14, 15, 16, 17, 18, 19, 20, 21, 22] rfl rfl rfl
  refine lv_astore_n (lv' := [(2, .ref (bd 0)), (1, .ref (ad 0)), (0, .ref b)]) hx hb dL_law_15 rfl hl (by decide) rfl (fun ls hl => ?_)
  refine lv_iconst (v := 1) hx hb dL_law_16 (by decide) ?_
  refine k_newl (t0 := 13) (N' := 1) (wf := fun od => rgW ad cy rC0 rN0 rT0 0 (mdW bd cy rC0 (rN0, ((fun _ => 0), (fun _ => 0), (fun _ => 0), 0, 0, (fun _ => 0))) 0 (-1) 0 [(od, .inl (cy 13, 1, .inr (.inl (fun _ => 0))))])) S I (List.mem_append_left _ (by decide +kernel)) rfl (by decide) rfl (Nat.le_of_ble_eq_true rfl) (Nat.le_of_ble_eq_true rfl) (Nat.le_of_ble_eq_true rfl) (fun _ => rfl) dL_law_17 (fun od H I => ?_)
  refine lv_astore_n (lv' := [(3, .ref od), (2, .ref (bd 0)), (1, .ref (ad 0)), (0, .ref b)]) hx hb dL_law_19 rfl hl (by decide) rfl (fun ls hl => ?_)
  refine lv_iconst (v := 0) hx hb dL_law_20 (by decide) ?_
  refine lv_istore (lv' := [(4, .int 0), (3, .ref od), (2, .ref (bd 0)), (1, .ref (ad 0)), (0, .ref b)]) hx hb dL_law_21 hl (by decide) rfl (fun ls hl => ?_)
  refine W.widen (k := 100 + 0) (n := 20000 + 8 * 0) (Nat.le_of_ble_eq_true rfl) (Nat.le_of_ble_eq_true rfl) ?_
  exact law_loop l hfl hL S hr hlocks hX hbl D cy ad bd od (L + 1) 0 (Nat.zero_le L) (by omega) rC0 rN0 rT0 ((fun _ => 0), (fun _ => 0), (fun _ => 0), 0, 0, (fun _ => 0)) 0 (-1) 0 (fun _ => 0) ⟨by decide, by decide, by decide, rfl, fun h => absurd h (by decide)⟩ _ _ I ls hl
