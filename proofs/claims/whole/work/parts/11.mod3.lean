/-! THE REFERENCE: run and count, laid by wip/whole/mod3.py -/
theorem in_X4_run_X4 : ∀ w ∈ u_ws RX4 TX4 15, w ∈ wsX4_run := by decide +kernel
theorem in_X4_count_X4 : ∀ w ∈ u_ws RX4 TX4 15, w ∈ wsX4_count := by decide +kernel
set_option maxHeartbeats 4000000 in
set_option maxRecDepth 100000 in
/-- run, no such level -/
theorem c_mrun0 (l : Launch) (D : va_G) (cy : Nat → ClassId) (A : Nat → Prop) (bd : Nat → Nat) (C : rC) (N : rN) (M : mM) (rn out code : Int32) (X : va_W) (x b v : Int32) (hx0 : isL x = 0) : Met l yX4_run wsX4_run ({ frames := 6, cells := 0, slots := 0, locals := 200 }) (va_Pc [.ref (bd 0), .int x, .int b, .int v] (KP D cy A (mdW bd cy C (N, M) rn out code X))) (va_Ql (fun (r : Int64) (_ : Unit) => r = 0) (fun _ => KB D cy A (mdW bd cy C (N, M) rn out 5 X)) A) 0 0 A := by
  refine k_open (own := RX4) (maxL := 4) (ret := (some .long)) (by decide) rfl rfl (Nat.le_of_ble_eq_true rfl) (fun p e s m args below meth c S hr hlk I ls hl => ?_)
  obtain ⟨hx, hb, hml, hown, hts⟩ := id S
  have hl : lv_has ls 4 [(0, .ref (bd 0)), (1, .int x), (2, .int b), (3, .int v)] := hl
  refine lv_aload_n hx hb dX4_run_0 rfl (lv_at hl 0 rfl) ?_
  refine lv_iload_n hx hb dX4_run_1 rfl (lv_at hl 1 rfl) ?_
  refine k_Si (As := [.int x]) (rest := [.ref (bd 0)]) (w1 := mdW bd cy C (N, M) rn out code X) (G := isL x) S I (c_misLevel l D cy A bd C N M rn out code X x) (va_cwS 1 hts gX4_run_X4_isLevel rfl rfl rfl (by decide +kernel) ⟨Nat.le_of_ble_eq_true rfl, Nat.le_of_ble_eq_true rfl⟩) rfl hl.1 rfl (Nat.le_of_ble_eq_true rfl) dX4_run_2 ⟨Nat.zero_le _, Nat.zero_le _⟩ (fun H locs I => ?_)
  refine lv_iconst (v := 5) hx hb dX4_run_5 (by decide) ?_
  refine k_Vi (q0 := 0) (As := [.int (isL x), .int 5]) (rest := []) (w1 := mdW bd cy C (N, M) rn out (gdC (isL x) 5) X) (G := isL x) S I (c_good l D cy A bd C N M rn out code X (isL x) 5 (isL_b x)) (cwV 2 hts gX4_run_X4_good rfl rfl rfl (by decide +kernel) ⟨Nat.le_of_ble_eq_true rfl, Nat.le_of_ble_eq_true rfl⟩) rfl rfl rfl rfl hl.1 rfl (Nat.le_of_ble_eq_true rfl) dX4_run_6 ⟨Nat.zero_le _, Nat.zero_le _⟩ (fun H locs I => ?_)
  refine lv_if_ne (tgt := 14) hx hb dX4_run_9 (by decide) (fun c_9 => ?_) (fun c_9 => ?_)
  · exact absurd hx0 c_9
  · have e : gdC (isL x) 5 = 5 := by unfold gdC; rw [if_pos hx0]
    refine lv_lconst (v := 0) hx hb dX4_run_12 (by decide) ?_
    exact k_lret S hr hlk I rfl (by rw [e]) dX4_run_13
/-- the reference's code of what came out, by its kind -/
def cdF (k : Int32) : Int32 := if k = 1 then 2 else if k = 2 then 3 else if k = 3 then 1 else k
set_option maxHeartbeats 4000000 in
set_option maxRecDepth 100000 in
/-- run that answers -/
theorem c_mrun1a (l : Launch) (D : va_G) (cy : Nat → ClassId) (A : Nat → Prop) (bd : Nat → Nat) (C : rC) (N : rN) (M : mM) (rn out code : Int32) (X : va_W) (k : Nat) (hk : k < 6) (b v : Int32) (S1 : mS)  (hR : mRch C k 0 (skM k b v ((N.1, 0), (M.1, M.2.1, M.2.2.1, 0, M.2.2.2.2))).2 (skM k b v ((N.1, 0), (M.1, M.2.1, M.2.2.1, 0, M.2.2.2.2))).1 (k + 1) (-1) S1) : Met l yX4_run wsX4_run ({ frames := 6, cells := 0, slots := 0, locals := 200 }) (va_Pc [.ref (bd 0), .int (nI k), .int b, .int v] (KP D cy A (mdW bd cy C (N, M) rn out code X))) (va_Ql (fun (r : Int64) (_ : Unit) => r = S1.2.2.2.2.2.1) (fun _ => KB D cy A (mdW bd cy C S1 (rn + 1) (-1) 0 X)) A) 0 0 A := by
  refine k_open (own := RX4) (maxL := 4) (ret := (some .long)) (by decide) rfl rfl (Nat.le_of_ble_eq_true rfl) (fun p e s m args below meth c S hr hlk I ls hl => ?_)
  obtain ⟨hx, hb, hml, hown, hts⟩ := id S
  have hl : lv_has ls 4 [(0, .ref (bd 0)), (1, .int (nI k)), (2, .int b), (3, .int v)] := hl
  refine lv_aload_n hx hb dX4_run_0 rfl (lv_at hl 0 rfl) ?_
  refine lv_iload_n hx hb dX4_run_1 rfl (lv_at hl 1 rfl) ?_
  refine k_Si (As := [.int (nI k)]) (rest := [.ref (bd 0)]) (w1 := mdW bd cy C (N, M) rn out code X) (G := isL (nI k)) S I (c_misLevel l D cy A bd C N M rn out code X (nI k)) (va_cwS 1 hts gX4_run_X4_isLevel rfl rfl rfl (by decide +kernel) ⟨Nat.le_of_ble_eq_true rfl, Nat.le_of_ble_eq_true rfl⟩) rfl hl.1 rfl (Nat.le_of_ble_eq_true rfl) dX4_run_2 ⟨Nat.zero_le _, Nat.zero_le _⟩ (fun H locs I => ?_)
  refine lv_iconst (v := 5) hx hb dX4_run_5 (by decide) ?_
  refine k_Vi (q0 := 0) (As := [.int (isL (nI k)), .int 5]) (rest := []) (w1 := mdW bd cy C (N, M) rn out (gdC (isL (nI k)) 5) X) (G := isL (nI k)) S I (c_good l D cy A bd C N M rn out code X (isL (nI k)) 5 (isL_b (nI k))) (cwV 2 hts gX4_run_X4_good rfl rfl rfl (by decide +kernel) ⟨Nat.le_of_ble_eq_true rfl, Nat.le_of_ble_eq_true rfl⟩) rfl rfl rfl rfl hl.1 rfl (Nat.le_of_ble_eq_true rfl) dX4_run_6 ⟨Nat.zero_le _, Nat.zero_le _⟩ (fun H locs I => ?_)
  refine lv_if_ne (tgt := 14) hx hb dX4_run_9 (by decide) (fun c_9 => ?_) (fun c_9 => ?_)
  · have e : gdC (isL (nI k)) 5 = 0 := by unfold gdC; rw [if_neg c_9]
    rw [e] at I
    refine lv_aload_n hx hb dX4_run_14 rfl (lv_at hl 0 rfl) ?_
    refine lv_iconst (v := 0) hx hb dX4_run_15 (by decide) ?_
    refine k_put (T := TX4) (N := 15) (ci := 4) (k := 5) (q0 := 0) (v := .int 0) (ty := .int) (fs := [.ref (bd 1), .ref (bd 2), .ref (bd 3), .ref (bd 4), .ref (bd 5), .int (nI (N, M).1.2), .int rn, .ref (bd 6), .ref (bd 7), .ref (bd 8), .int (nI (N, M).2.2.2.2.1), .long (N, M).2.2.2.2.2.1, .int out, .int 0, .ref (bd 9)]) (w1 := mdW bd cy C ((N.1, 0), M) rn out 0 X) S I in_X4_run_X4 tyX4 tyX4_ok nmX4 rfl rfl (by decide) (by decide +kernel) rfl rfl rfl rfl (Nat.le_of_ble_eq_true rfl) rfl dX4_run_16 (fun H locs I => ?_)
    refine lv_aload_n hx hb dX4_run_19 rfl (lv_at hl 0 rfl) ?_
    refine lv_dup hx hb dX4_run_20 rfl ?_
    refine k_get (T := TX4) (N := 15) (ci := 4) (k := 6) (q0 := 0) (v := .int rn) S I in_X4_run_X4 rfl rfl (by decide) (by decide +kernel) rfl dX4_run_21 ?_
    refine lv_iconst (v := 1) hx hb dX4_run_24 (by decide) ?_
    refine lv_iadd hx hb dX4_run_25 ?_
    refine k_put (T := TX4) (N := 15) (ci := 4) (k := 6) (q0 := 0) (v := .int (rn + 1)) (ty := .int) (fs := [.ref (bd 1), .ref (bd 2), .ref (bd 3), .ref (bd 4), .ref (bd 5), .int (nI ((N.1, 0), M).1.2), .int rn, .ref (bd 6), .ref (bd 7), .ref (bd 8), .int (nI ((N.1, 0), M).2.2.2.2.1), .long ((N.1, 0), M).2.2.2.2.2.1, .int out, .int 0, .ref (bd 9)]) (w1 := mdW bd cy C ((N.1, 0), M) (rn + 1) out 0 X) S I in_X4_run_X4 tyX4 tyX4_ok nmX4 rfl rfl (by decide) (by decide +kernel) rfl rfl rfl rfl (Nat.le_of_ble_eq_true rfl) rfl dX4_run_26 (fun H locs I => ?_)
    refine lv_aload_n hx hb dX4_run_29 rfl (lv_at hl 0 rfl) ?_
    refine lv_iconst (v := 0) hx hb dX4_run_30 (by decide) ?_
    refine k_put (T := TX4) (N := 15) (ci := 4) (k := 10) (q0 := 0) (v := .int 0) (ty := .int) (fs := [.ref (bd 1), .ref (bd 2), .ref (bd 3), .ref (bd 4), .ref (bd 5), .int (nI ((N.1, 0), M).1.2), .int (rn + 1), .ref (bd 6), .ref (bd 7), .ref (bd 8), .int (nI ((N.1, 0), M).2.2.2.2.1), .long ((N.1, 0), M).2.2.2.2.2.1, .int out, .int 0, .ref (bd 9)]) (w1 := mdW bd cy C ((N.1, 0), (M.1, M.2.1, M.2.2.1, 0, M.2.2.2.2)) (rn + 1) out 0 X) S I in_X4_run_X4 tyX4 tyX4_ok nmX4 rfl rfl (by decide) (by decide +kernel) rfl rfl rfl rfl (Nat.le_of_ble_eq_true rfl) rfl dX4_run_31 (fun H locs I => ?_)
    refine lv_aload_n hx hb dX4_run_34 rfl (lv_at hl 0 rfl) ?_
    refine lv_aload_n hx hb dX4_run_35 rfl (lv_at hl 0 rfl) ?_
    refine lv_iload_n hx hb dX4_run_36 rfl (lv_at hl 1 rfl) ?_
    refine lv_aload_n hx hb dX4_run_37 rfl (lv_at hl 0 rfl) ?_
    refine lv_iload_n hx hb dX4_run_38 rfl (lv_at hl 1 rfl) ?_
    refine lv_iload_n hx hb dX4_run_39 rfl (lv_at hl 2 rfl) ?_
    refine lv_iload_n hx hb dX4_run_40 rfl (lv_at hl 3 rfl) ?_
    refine k_Vi (q0 := 0) (As := [.int (nI k), .int b, .int v]) (rest := [.int (nI k), .ref (bd 0), .ref (bd 0)]) (w1 := mdW bd cy C ((skM k b v ((N.1, 0), (M.1, M.2.1, M.2.2.1, 0, M.2.2.2.2))).1) (rn + 1) out 0 X) (G := (skM k b v ((N.1, 0), (M.1, M.2.1, M.2.2.1, 0, M.2.2.2.2))).2) S I (c_sink l D cy A bd C (N.1, 0) (M.1, M.2.1, M.2.2.1, 0, M.2.2.2.2) (rn + 1) out 0 X k hk (show 0 + k < 99980 by omega) (show (0 : Nat) < 4096 by decide) b v) (cwV 3 hts gX4_run_X4_sink rfl rfl rfl (by decide +kernel) ⟨Nat.le_of_ble_eq_true rfl, Nat.le_of_ble_eq_true rfl⟩) rfl rfl rfl rfl hl.1 rfl (Nat.le_of_ble_eq_true rfl) dX4_run_41 ⟨Nat.zero_le _, Nat.zero_le _⟩ (fun H locs I => ?_)
    refine k_Vi (q0 := 0) (As := [.int (nI k), .int ((skM k b v ((N.1, 0), (M.1, M.2.1, M.2.2.1, 0, M.2.2.2.2))).2)]) (rest := [.ref (bd 0)]) (w1 := mdW bd cy C S1 (rn + 1) out 0 X) (G := (-1)) S I (c_rise l D cy A bd C (rn + 1) out 0 X k hk (skM k b v ((N.1, 0), (M.1, M.2.1, M.2.2.1, 0, M.2.2.2.2))).2 (-1) (skM k b v ((N.1, 0), (M.1, M.2.1, M.2.2.1, 0, M.2.2.2.2))).1 S1 hR) (cwV 2 hts gX4_run_X4_rise rfl rfl rfl (by decide +kernel) ⟨Nat.le_of_ble_eq_true rfl, Nat.le_of_ble_eq_true rfl⟩) rfl rfl rfl rfl hl.1 rfl (Nat.le_of_ble_eq_true rfl) dX4_run_44 ⟨Nat.zero_le _, Nat.zero_le _⟩ (fun H locs I => ?_)
    refine k_put (T := TX4) (N := 15) (ci := 4) (k := 12) (q0 := 0) (v := .int (-1)) (ty := .int) (fs := [.ref (bd 1), .ref (bd 2), .ref (bd 3), .ref (bd 4), .ref (bd 5), .int (nI S1.1.2), .int (rn + 1), .ref (bd 6), .ref (bd 7), .ref (bd 8), .int (nI S1.2.2.2.2.1), .long S1.2.2.2.2.2.1, .int out, .int 0, .ref (bd 9)]) (w1 := mdW bd cy C S1 (rn + 1) (-1) 0 X) S I in_X4_run_X4 tyX4 tyX4_ok nmX4 rfl rfl (by decide) (by decide +kernel) rfl rfl rfl rfl (Nat.le_of_ble_eq_true rfl) rfl dX4_run_47 (fun H locs I => ?_)
    refine lv_aload_n hx hb dX4_run_50 rfl (lv_at hl 0 rfl) ?_
    refine k_get (T := TX4) (N := 15) (ci := 4) (k := 12) (q0 := 0) (v := .int (-1)) S I in_X4_run_X4 rfl rfl (by decide) (by decide +kernel) rfl dX4_run_51 ?_
    refine lv_if_ge (tgt := 62) hx hb dX4_run_54 (by decide) (fun c_54 => ?_) (fun c_54 => ?_)
    · exact absurd c_54 (by decide)
    · refine lv_aload_n hx hb dX4_run_57 rfl (lv_at hl 0 rfl) ?_
      refine k_get (T := TX4) (N := 15) (ci := 4) (k := 11) (q0 := 0) (v := .long S1.2.2.2.2.2.1) S I in_X4_run_X4 rfl rfl (by decide) (by decide +kernel) rfl dX4_run_58 ?_
      exact k_lret S hr hlk I rfl rfl dX4_run_61
  · exact absurd (c_9.symm.trans (isL_1 hk)) (by decide)
set_option maxHeartbeats 4000000 in
set_option maxRecDepth 100000 in
/-- run out of which something comes -/
theorem c_mrun1b (l : Launch) (D : va_G) (cy : Nat → ClassId) (A : Nat → Prop) (bd : Nat → Nat) (C : rC) (N : rN) (M : mM) (rn out code : Int32) (X : va_W) (k : Nat) (hk : k < 6) (b v : Int32) (S1 : mS) (j : Nat) (hj : j < 4096) (hR : mRch C k 0 (skM k b v ((N.1, 0), (M.1, M.2.1, M.2.2.1, 0, M.2.2.2.2))).2 (skM k b v ((N.1, 0), (M.1, M.2.1, M.2.2.1, 0, M.2.2.2.2))).1 (k + 1) (nI j) S1) : Met l yX4_run wsX4_run ({ frames := 6, cells := 0, slots := 0, locals := 200 }) (va_Pc [.ref (bd 0), .int (nI k), .int b, .int v] (KP D cy A (mdW bd cy C (N, M) rn out code X))) (va_Ql (fun (r : Int64) (_ : Unit) => r = 0) (fun _ => KB D cy A (mdW bd cy C S1 (rn + 1) (nI j) (cdF (S1.2.1 j)) X)) A) 0 0 A := by
  refine k_open (own := RX4) (maxL := 4) (ret := (some .long)) (by decide) rfl rfl (Nat.le_of_ble_eq_true rfl) (fun p e s m args below meth c S hr hlk I ls hl => ?_)
  obtain ⟨hx, hb, hml, hown, hts⟩ := id S
  have hl : lv_has ls 4 [(0, .ref (bd 0)), (1, .int (nI k)), (2, .int b), (3, .int v)] := hl
  refine lv_aload_n hx hb dX4_run_0 rfl (lv_at hl 0 rfl) ?_
  refine lv_iload_n hx hb dX4_run_1 rfl (lv_at hl 1 rfl) ?_
  refine k_Si (As := [.int (nI k)]) (rest := [.ref (bd 0)]) (w1 := mdW bd cy C (N, M) rn out code X) (G := isL (nI k)) S I (c_misLevel l D cy A bd C N M rn out code X (nI k)) (va_cwS 1 hts gX4_run_X4_isLevel rfl rfl rfl (by decide +kernel) ⟨Nat.le_of_ble_eq_true rfl, Nat.le_of_ble_eq_true rfl⟩) rfl hl.1 rfl (Nat.le_of_ble_eq_true rfl) dX4_run_2 ⟨Nat.zero_le _, Nat.zero_le _⟩ (fun H locs I => ?_)
  refine lv_iconst (v := 5) hx hb dX4_run_5 (by decide) ?_
  refine k_Vi (q0 := 0) (As := [.int (isL (nI k)), .int 5]) (rest := []) (w1 := mdW bd cy C (N, M) rn out (gdC (isL (nI k)) 5) X) (G := isL (nI k)) S I (c_good l D cy A bd C N M rn out code X (isL (nI k)) 5 (isL_b (nI k))) (cwV 2 hts gX4_run_X4_good rfl rfl rfl (by decide +kernel) ⟨Nat.le_of_ble_eq_true rfl, Nat.le_of_ble_eq_true rfl⟩) rfl rfl rfl rfl hl.1 rfl (Nat.le_of_ble_eq_true rfl) dX4_run_6 ⟨Nat.zero_le _, Nat.zero_le _⟩ (fun H locs I => ?_)
  refine lv_if_ne (tgt := 14) hx hb dX4_run_9 (by decide) (fun c_9 => ?_) (fun c_9 => ?_)
  · have e : gdC (isL (nI k)) 5 = 0 := by unfold gdC; rw [if_neg c_9]
    rw [e] at I
    refine lv_aload_n hx hb dX4_run_14 rfl (lv_at hl 0 rfl) ?_
    refine lv_iconst (v := 0) hx hb dX4_run_15 (by decide) ?_
    refine k_put (T := TX4) (N := 15) (ci := 4) (k := 5) (q0 := 0) (v := .int 0) (ty := .int) (fs := [.ref (bd 1), .ref (bd 2), .ref (bd 3), .ref (bd 4), .ref (bd 5), .int (nI (N, M).1.2), .int rn, .ref (bd 6), .ref (bd 7), .ref (bd 8), .int (nI (N, M).2.2.2.2.1), .long (N, M).2.2.2.2.2.1, .int out, .int 0, .ref (bd 9)]) (w1 := mdW bd cy C ((N.1, 0), M) rn out 0 X) S I in_X4_run_X4 tyX4 tyX4_ok nmX4 rfl rfl (by decide) (by decide +kernel) rfl rfl rfl rfl (Nat.le_of_ble_eq_true rfl) rfl dX4_run_16 (fun H locs I => ?_)
    refine lv_aload_n hx hb dX4_run_19 rfl (lv_at hl 0 rfl) ?_
    refine lv_dup hx hb dX4_run_20 rfl ?_
    refine k_get (T := TX4) (N := 15) (ci := 4) (k := 6) (q0 := 0) (v := .int rn) S I in_X4_run_X4 rfl rfl (by decide) (by decide +kernel) rfl dX4_run_21 ?_
    refine lv_iconst (v := 1) hx hb dX4_run_24 (by decide) ?_
    refine lv_iadd hx hb dX4_run_25 ?_
    refine k_put (T := TX4) (N := 15) (ci := 4) (k := 6) (q0 := 0) (v := .int (rn + 1)) (ty := .int) (fs := [.ref (bd 1), .ref (bd 2), .ref (bd 3), .ref (bd 4), .ref (bd 5), .int (nI ((N.1, 0), M).1.2), .int rn, .ref (bd 6), .ref (bd 7), .ref (bd 8), .int (nI ((N.1, 0), M).2.2.2.2.1), .long ((N.1, 0), M).2.2.2.2.2.1, .int out, .int 0, .ref (bd 9)]) (w1 := mdW bd cy C ((N.1, 0), M) (rn + 1) out 0 X) S I in_X4_run_X4 tyX4 tyX4_ok nmX4 rfl rfl (by decide) (by decide +kernel) rfl rfl rfl rfl (Nat.le_of_ble_eq_true rfl) rfl dX4_run_26 (fun H locs I => ?_)
    refine lv_aload_n hx hb dX4_run_29 rfl (lv_at hl 0 rfl) ?_
    refine lv_iconst (v := 0) hx hb dX4_run_30 (by decide) ?_
    refine k_put (T := TX4) (N := 15) (ci := 4) (k := 10) (q0 := 0) (v := .int 0) (ty := .int) (fs := [.ref (bd 1), .ref (bd 2), .ref (bd 3), .ref (bd 4), .ref (bd 5), .int (nI ((N.1, 0), M).1.2), .int (rn + 1), .ref (bd 6), .ref (bd 7), .ref (bd 8), .int (nI ((N.1, 0), M).2.2.2.2.1), .long ((N.1, 0), M).2.2.2.2.2.1, .int out, .int 0, .ref (bd 9)]) (w1 := mdW bd cy C ((N.1, 0), (M.1, M.2.1, M.2.2.1, 0, M.2.2.2.2)) (rn + 1) out 0 X) S I in_X4_run_X4 tyX4 tyX4_ok nmX4 rfl rfl (by decide) (by decide +kernel) rfl rfl rfl rfl (Nat.le_of_ble_eq_true rfl) rfl dX4_run_31 (fun H locs I => ?_)
    refine lv_aload_n hx hb dX4_run_34 rfl (lv_at hl 0 rfl) ?_
    refine lv_aload_n hx hb dX4_run_35 rfl (lv_at hl 0 rfl) ?_
    refine lv_iload_n hx hb dX4_run_36 rfl (lv_at hl 1 rfl) ?_
    refine lv_aload_n hx hb dX4_run_37 rfl (lv_at hl 0 rfl) ?_
    refine lv_iload_n hx hb dX4_run_38 rfl (lv_at hl 1 rfl) ?_
    refine lv_iload_n hx hb dX4_run_39 rfl (lv_at hl 2 rfl) ?_
    refine lv_iload_n hx hb dX4_run_40 rfl (lv_at hl 3 rfl) ?_
    refine k_Vi (q0 := 0) (As := [.int (nI k), .int b, .int v]) (rest := [.int (nI k), .ref (bd 0), .ref (bd 0)]) (w1 := mdW bd cy C ((skM k b v ((N.1, 0), (M.1, M.2.1, M.2.2.1, 0, M.2.2.2.2))).1) (rn + 1) out 0 X) (G := (skM k b v ((N.1, 0), (M.1, M.2.1, M.2.2.1, 0, M.2.2.2.2))).2) S I (c_sink l D cy A bd C (N.1, 0) (M.1, M.2.1, M.2.2.1, 0, M.2.2.2.2) (rn + 1) out 0 X k hk (show 0 + k < 99980 by omega) (show (0 : Nat) < 4096 by decide) b v) (cwV 3 hts gX4_run_X4_sink rfl rfl rfl (by decide +kernel) ⟨Nat.le_of_ble_eq_true rfl, Nat.le_of_ble_eq_true rfl⟩) rfl rfl rfl rfl hl.1 rfl (Nat.le_of_ble_eq_true rfl) dX4_run_41 ⟨Nat.zero_le _, Nat.zero_le _⟩ (fun H locs I => ?_)
    refine k_Vi (q0 := 0) (As := [.int (nI k), .int ((skM k b v ((N.1, 0), (M.1, M.2.1, M.2.2.1, 0, M.2.2.2.2))).2)]) (rest := [.ref (bd 0)]) (w1 := mdW bd cy C S1 (rn + 1) out 0 X) (G := (nI j)) S I (c_rise l D cy A bd C (rn + 1) out 0 X k hk (skM k b v ((N.1, 0), (M.1, M.2.1, M.2.2.1, 0, M.2.2.2.2))).2 (nI j) (skM k b v ((N.1, 0), (M.1, M.2.1, M.2.2.1, 0, M.2.2.2.2))).1 S1 hR) (cwV 2 hts gX4_run_X4_rise rfl rfl rfl (by decide +kernel) ⟨Nat.le_of_ble_eq_true rfl, Nat.le_of_ble_eq_true rfl⟩) rfl rfl rfl rfl hl.1 rfl (Nat.le_of_ble_eq_true rfl) dX4_run_44 ⟨Nat.zero_le _, Nat.zero_le _⟩ (fun H locs I => ?_)
    refine k_put (T := TX4) (N := 15) (ci := 4) (k := 12) (q0 := 0) (v := .int (nI j)) (ty := .int) (fs := [.ref (bd 1), .ref (bd 2), .ref (bd 3), .ref (bd 4), .ref (bd 5), .int (nI S1.1.2), .int (rn + 1), .ref (bd 6), .ref (bd 7), .ref (bd 8), .int (nI S1.2.2.2.2.1), .long S1.2.2.2.2.2.1, .int out, .int 0, .ref (bd 9)]) (w1 := mdW bd cy C S1 (rn + 1) (nI j) 0 X) S I in_X4_run_X4 tyX4 tyX4_ok nmX4 rfl rfl (by decide) (by decide +kernel) rfl rfl rfl rfl (Nat.le_of_ble_eq_true rfl) rfl dX4_run_47 (fun H locs I => ?_)
    refine lv_aload_n hx hb dX4_run_50 rfl (lv_at hl 0 rfl) ?_
    refine k_get (T := TX4) (N := 15) (ci := 4) (k := 12) (q0 := 0) (v := .int (nI j)) S I in_X4_run_X4 rfl rfl (by decide) (by decide +kernel) rfl dX4_run_51 ?_
    refine lv_if_ge (tgt := 62) hx hb dX4_run_54 (by decide) (fun c_54 => ?_) (fun c_54 => ?_)
    · refine lv_aload_n hx hb dX4_run_62 rfl (lv_at hl 0 rfl) ?_
      refine lv_aload_n hx hb dX4_run_63 rfl (lv_at hl 0 rfl) ?_
      refine k_get (T := TX4) (N := 15) (ci := 4) (k := 7) (q0 := 0) (v := .ref (bd 6)) S I in_X4_run_X4 rfl rfl (by decide) (by decide +kernel) rfl dX4_run_64 ?_
      refine lv_aload_n hx hb dX4_run_67 rfl (lv_at hl 0 rfl) ?_
      refine k_get (T := TX4) (N := 15) (ci := 4) (k := 12) (q0 := 0) (v := .int (nI j)) S I in_X4_run_X4 rfl rfl (by decide) (by decide +kernel) rfl dX4_run_68 ?_
      refine k_iald (q0 := 6) (t0 := 9) (j := j) (x := S1.2.1 j) S I rfl rfl hj (by decide) rfl rfl dX4_run_71 ?_
      refine lv_iconst (v := 1) hx hb dX4_run_72 (by decide) ?_
      refine lv_icmp_ne (tgt := 80) hx hb dX4_run_73 (by decide) (fun c_73 => ?_) (fun c_73 => ?_)
      · refine lv_aload_n hx hb dX4_run_80 rfl (lv_at hl 0 rfl) ?_
        refine k_get (T := TX4) (N := 15) (ci := 4) (k := 7) (q0 := 0) (v := .ref (bd 6)) S I in_X4_run_X4 rfl rfl (by decide) (by decide +kernel) rfl dX4_run_81 ?_
        refine lv_aload_n hx hb dX4_run_84 rfl (lv_at hl 0 rfl) ?_
        refine k_get (T := TX4) (N := 15) (ci := 4) (k := 12) (q0 := 0) (v := .int (nI j)) S I in_X4_run_X4 rfl rfl (by decide) (by decide +kernel) rfl dX4_run_85 ?_
        refine k_iald (q0 := 6) (t0 := 9) (j := j) (x := S1.2.1 j) S I rfl rfl hj (by decide) rfl rfl dX4_run_88 ?_
        refine lv_iconst (v := 2) hx hb dX4_run_89 (by decide) ?_
        refine lv_icmp_ne (tgt := 97) hx hb dX4_run_90 (by decide) (fun c_90 => ?_) (fun c_90 => ?_)
        · refine lv_aload_n hx hb dX4_run_97 rfl (lv_at hl 0 rfl) ?_
          refine k_get (T := TX4) (N := 15) (ci := 4) (k := 7) (q0 := 0) (v := .ref (bd 6)) S I in_X4_run_X4 rfl rfl (by decide) (by decide +kernel) rfl dX4_run_98 ?_
          refine lv_aload_n hx hb dX4_run_101 rfl (lv_at hl 0 rfl) ?_
          refine k_get (T := TX4) (N := 15) (ci := 4) (k := 12) (q0 := 0) (v := .int (nI j)) S I in_X4_run_X4 rfl rfl (by decide) (by decide +kernel) rfl dX4_run_102 ?_
          refine k_iald (q0 := 6) (t0 := 9) (j := j) (x := S1.2.1 j) S I rfl rfl hj (by decide) rfl rfl dX4_run_105 ?_
          refine lv_iconst (v := 3) hx hb dX4_run_106 (by decide) ?_
          refine lv_icmp_ne (tgt := 114) hx hb dX4_run_107 (by decide) (fun c_107 => ?_) (fun c_107 => ?_)
          · refine lv_aload_n hx hb dX4_run_114 rfl (lv_at hl 0 rfl) ?_
            refine k_get (T := TX4) (N := 15) (ci := 4) (k := 7) (q0 := 0) (v := .ref (bd 6)) S I in_X4_run_X4 rfl rfl (by decide) (by decide +kernel) rfl dX4_run_115 ?_
            refine lv_aload_n hx hb dX4_run_118 rfl (lv_at hl 0 rfl) ?_
            refine k_get (T := TX4) (N := 15) (ci := 4) (k := 12) (q0 := 0) (v := .int (nI j)) S I in_X4_run_X4 rfl rfl (by decide) (by decide +kernel) rfl dX4_run_119 ?_
            refine k_iald (q0 := 6) (t0 := 9) (j := j) (x := S1.2.1 j) S I rfl rfl hj (by decide) rfl rfl dX4_run_122 ?_
            refine k_put (T := TX4) (N := 15) (ci := 4) (k := 13) (q0 := 0) (v := .int (S1.2.1 j)) (ty := .int) (fs := [.ref (bd 1), .ref (bd 2), .ref (bd 3), .ref (bd 4), .ref (bd 5), .int (nI S1.1.2), .int (rn + 1), .ref (bd 6), .ref (bd 7), .ref (bd 8), .int (nI S1.2.2.2.2.1), .long S1.2.2.2.2.2.1, .int (nI j), .int 0, .ref (bd 9)]) (w1 := mdW bd cy C S1 (rn + 1) (nI j) (S1.2.1 j) X) S I in_X4_run_X4 tyX4 tyX4_ok nmX4 rfl rfl (by decide) (by decide +kernel) rfl rfl rfl rfl (Nat.le_of_ble_eq_true rfl) rfl dX4_run_123 (fun H locs I => ?_)
            refine lv_lconst (v := 0) hx hb dX4_run_126 (by decide) ?_
            exact k_lret S hr hlk I rfl (by rw [show cdF (S1.2.1 j) = S1.2.1 j from by unfold cdF; rw [if_neg c_73, if_neg c_90, if_neg c_107]]) dX4_run_127
          · refine lv_iconst (v := 1) hx hb dX4_run_110 (by decide) ?_
            refine lv_goto (tgt := 123) hx hb dX4_run_111 (by decide) ?_
            refine k_put (T := TX4) (N := 15) (ci := 4) (k := 13) (q0 := 0) (v := .int 1) (ty := .int) (fs := [.ref (bd 1), .ref (bd 2), .ref (bd 3), .ref (bd 4), .ref (bd 5), .int (nI S1.1.2), .int (rn + 1), .ref (bd 6), .ref (bd 7), .ref (bd 8), .int (nI S1.2.2.2.2.1), .long S1.2.2.2.2.2.1, .int (nI j), .int 0, .ref (bd 9)]) (w1 := mdW bd cy C S1 (rn + 1) (nI j) 1 X) S I in_X4_run_X4 tyX4 tyX4_ok nmX4 rfl rfl (by decide) (by decide +kernel) rfl rfl rfl rfl (Nat.le_of_ble_eq_true rfl) rfl dX4_run_123 (fun H locs I => ?_)
            refine lv_lconst (v := 0) hx hb dX4_run_126 (by decide) ?_
            exact k_lret S hr hlk I rfl (by rw [show cdF (S1.2.1 j) = 1 from by unfold cdF; rw [if_neg c_73, if_neg c_90, if_pos c_107]]) dX4_run_127
        · refine lv_iconst (v := 3) hx hb dX4_run_93 (by decide) ?_
          refine lv_goto (tgt := 123) hx hb dX4_run_94 (by decide) ?_
          refine k_put (T := TX4) (N := 15) (ci := 4) (k := 13) (q0 := 0) (v := .int 3) (ty := .int) (fs := [.ref (bd 1), .ref (bd 2), .ref (bd 3), .ref (bd 4), .ref (bd 5), .int (nI S1.1.2), .int (rn + 1), .ref (bd 6), .ref (bd 7), .ref (bd 8), .int (nI S1.2.2.2.2.1), .long S1.2.2.2.2.2.1, .int (nI j), .int 0, .ref (bd 9)]) (w1 := mdW bd cy C S1 (rn + 1) (nI j) 3 X) S I in_X4_run_X4 tyX4 tyX4_ok nmX4 rfl rfl (by decide) (by decide +kernel) rfl rfl rfl rfl (Nat.le_of_ble_eq_true rfl) rfl dX4_run_123 (fun H locs I => ?_)
          refine lv_lconst (v := 0) hx hb dX4_run_126 (by decide) ?_
          exact k_lret S hr hlk I rfl (by rw [show cdF (S1.2.1 j) = 3 from by unfold cdF; rw [if_neg c_73, if_pos c_90]]) dX4_run_127
      · refine lv_iconst (v := 2) hx hb dX4_run_76 (by decide) ?_
        refine lv_goto (tgt := 123) hx hb dX4_run_77 (by decide) ?_
        refine k_put (T := TX4) (N := 15) (ci := 4) (k := 13) (q0 := 0) (v := .int 2) (ty := .int) (fs := [.ref (bd 1), .ref (bd 2), .ref (bd 3), .ref (bd 4), .ref (bd 5), .int (nI S1.1.2), .int (rn + 1), .ref (bd 6), .ref (bd 7), .ref (bd 8), .int (nI S1.2.2.2.2.1), .long S1.2.2.2.2.2.1, .int (nI j), .int 0, .ref (bd 9)]) (w1 := mdW bd cy C S1 (rn + 1) (nI j) 2 X) S I in_X4_run_X4 tyX4 tyX4_ok nmX4 rfl rfl (by decide) (by decide +kernel) rfl rfl rfl rfl (Nat.le_of_ble_eq_true rfl) rfl dX4_run_123 (fun H locs I => ?_)
        refine lv_lconst (v := 0) hx hb dX4_run_126 (by decide) ?_
        exact k_lret S hr hlk I rfl (by rw [show cdF (S1.2.1 j) = 2 from by unfold cdF; rw [if_pos c_73]]) dX4_run_127
    · exact absurd (nI_pos' (by omega)) c_54
  · exact absurd (c_9.symm.trans (isL_1 hk)) (by decide)
/-- the chain of causes from t on: n things, f and g their kinds and numbers, the last at 0 -/
def chM (M : mM) (f g : Nat → Int32) : Nat → Int32 → Prop
  | 0, t => t = -1
  | n + 1, t => ∃ j : Nat, t = nI j ∧ j < M.2.2.2.1 ∧ M.1 j = f n ∧ M.2.1 j = g n ∧ chM M f g n (M.2.2.1 j)
/-- what count answers -/
def cnF (N : rN) (T : rT) (rn x : Int32) : Int32 := if x = 0 then nI N.2 else if x = 1 then rn else if x = 2 then kdT T else if x = 3 then nbT T else if x = 4 then csT T else if x = 5 then lkT T else lnT T
set_option maxHeartbeats 4000000 in
set_option maxRecDepth 100000 in
/-- count, none such -/
theorem c_mcount0 (l : Launch) (D : va_G) (cy : Nat → ClassId) (A : Nat → Prop) (bd : Nat → Nat) (C : rC) (N : rN) (M : mM) (rn out code : Int32) (X : va_W) (x : Int32) (hn : x < 0 ∨ 6 < x) : Met l yX4_count wsX4_count ({ frames := 1, cells := 0, slots := 0, locals := 40 }) (va_Pc [.ref (bd 0), .int x] (KP D cy A (mdW bd cy C (N, M) rn out code X))) (va_Qi (fun (r : Int32) (_ : Unit) => r = 0) (fun _ => KB D cy A (mdW bd cy C (N, M) rn out 1 X)) A) 0 0 A := by
  refine k_open (own := RX4) (maxL := 5) (ret := (some .int)) (by decide) rfl rfl (Nat.le_of_ble_eq_true rfl) (fun p e s m args below meth c S hr hlk I ls hl => ?_)
  obtain ⟨hx, hb, hml, hown, hts⟩ := id S
  have hl : lv_has ls 5 [(0, .ref (bd 0)), (1, .int x)] := hl
  refine lv_aload_n hx hb dX4_count_0 rfl (lv_at hl 0 rfl) ?_
  refine lv_iload_n hx hb dX4_count_1 rfl (lv_at hl 1 rfl) ?_
  refine lv_if_lt (tgt := 15) hx hb dX4_count_2 (by decide) (fun c_2 => ?_) (fun c_2 => ?_)
  · refine lv_iconst (v := 0) hx hb dX4_count_15 (by decide) ?_
    refine lv_iconst (v := 1) hx hb dX4_count_16 (by decide) ?_
    refine k_Vi (q0 := 0) (As := [.int 0, .int 1]) (rest := []) (w1 := mdW bd cy C (N, M) rn out (gdC 0 1) X) (G := 0) S I (c_good l D cy A bd C N M rn out code X 0 1 rfl) (cwV 2 hts gX4_count_X4_good rfl rfl rfl (by decide +kernel) ⟨Nat.le_of_ble_eq_true rfl, Nat.le_of_ble_eq_true rfl⟩) rfl rfl rfl rfl hl.1 rfl (Nat.le_of_ble_eq_true rfl) dX4_count_17 ⟨Nat.zero_le _, Nat.zero_le _⟩ (fun H locs I => ?_)
    refine lv_if_ne (tgt := 25) hx hb dX4_count_20 (by decide) (fun c_20 => ?_) (fun c_20 => ?_)
    · exact absurd rfl c_20
    · refine lv_iconst (v := 0) hx hb dX4_count_23 (by decide) ?_
      exact k_iret S hr hlk I rfl rfl dX4_count_24
  · refine lv_iload_n hx hb dX4_count_5 rfl (lv_at hl 1 rfl) ?_
    refine lv_bipush (v := 6) hx hb dX4_count_6 (by decide) ?_
    refine lv_icmp_gt (tgt := 15) hx hb dX4_count_8 (by decide) (fun c_8 => ?_) (fun c_8 => ?_)
    · refine lv_iconst (v := 0) hx hb dX4_count_15 (by decide) ?_
      refine lv_iconst (v := 1) hx hb dX4_count_16 (by decide) ?_
      refine k_Vi (q0 := 0) (As := [.int 0, .int 1]) (rest := []) (w1 := mdW bd cy C (N, M) rn out (gdC 0 1) X) (G := 0) S I (c_good l D cy A bd C N M rn out code X 0 1 rfl) (cwV 2 hts gX4_count_X4_good rfl rfl rfl (by decide +kernel) ⟨Nat.le_of_ble_eq_true rfl, Nat.le_of_ble_eq_true rfl⟩) rfl rfl rfl rfl hl.1 rfl (Nat.le_of_ble_eq_true rfl) dX4_count_17 ⟨Nat.zero_le _, Nat.zero_le _⟩ (fun H locs I => ?_)
      refine lv_if_ne (tgt := 25) hx hb dX4_count_20 (by decide) (fun c_20 => ?_) (fun c_20 => ?_)
      · exact absurd rfl c_20
      · refine lv_iconst (v := 0) hx hb dX4_count_23 (by decide) ?_
        exact k_iret S hr hlk I rfl rfl dX4_count_24
    · exact absurd hn (fun h => h.elim c_2 c_8)
set_option maxHeartbeats 4000000 in
set_option maxRecDepth 100000 in
/-- count's loop, at its head -/
theorem lp_count {p : Program} {l : Launch} {e : Env} {s : State} {m : MethodId} {args : Array Value} {below : List Frame} {meth : Method} {c : Code} {D : va_G} {cy : Nat → ClassId} {A : Nat → Prop} {bd : Nat → Nat} {C : rC} {N : rN} {M : mM} {rn out code : Int32} {X : va_W} {x : Int32} {f g : Nat → Int32} {Q : State → Prop} {R : Room} {H : Heap} {locs : List Loc}
    (S : CallFix p m c cX4_count 5 s args wsX4_count RX4) (hM : M.2.2.2.1 ≤ 4096) (I : KI D cy A (mdW bd cy C (N, M) rn out code X) s H locs) :
    ∀ (n d : Nat) (lst t : Int32), d + n < 1000 → chM M f g n t → (∀ (l1 : Int32), (n = 0 → l1 = lst) → (0 < n → ∃ j : Nat, l1 = nI j ∧ j < M.2.2.2.1 ∧ M.1 j = f 0 ∧ M.2.1 j = g 0) → ∀ ls : Array Slot, lv_has ls 5 [(4, .int (-1)), (3, .int l1), (2, .int (nI (d + n))), (0, .ref (bd 0)), (1, .int x)] → W p l e R s m args below meth c H locs 0 0 Q (F0 m 74 ls [])) →
    ∀ ls : Array Slot, lv_has ls 5 [(4, .int t), (3, .int lst), (2, .int (nI d)), (0, .ref (bd 0)), (1, .int x)] → W p l e R s m args below meth c H locs 0 0 Q (F0 m 51 ls []) := by
  obtain ⟨hx, hb, hml, hown, hts⟩ := id S
  intro n
  induction n with
  | zero =>
    intro d lst t hd hc hN ls hl
    have ht : t = -1 := hc
    subst ht
    refine lv_iload hx hb dX4_count_51 (lv_at hl 0 rfl) ?_
    refine lv_if_lt (tgt := 74) hx hb dX4_count_53 (by decide) (fun c_53 => ?_) (fun c_53 => ?_)
    · exact hN lst (fun _ => rfl) (fun h => absurd h (Nat.lt_irrefl _)) ls hl
    · exact absurd (by decide) c_53
  | succ n ih =>
    intro d lst t hd hc hN ls hl
    obtain ⟨j, ht, hj, hf, hg, hc1⟩ := hc
    subst ht
    refine lv_iload hx hb dX4_count_51 (lv_at hl 0 rfl) ?_
    refine lv_if_lt (tgt := 74) hx hb dX4_count_53 (by decide) (fun c_53 => ?_) (fun c_53 => ?_)
    · exact absurd c_53 (nI_pos (by omega))
    · refine lv_iinc (v := (nI (d + 1))) (lv' := [(2, .int (nI (d + 1))), (4, .int (nI j)), (3, .int lst), (0, .ref (bd 0)), (1, .int x)]) hx hb dX4_count_56 hl (k := 2) rfl (nI_succ _).symm (by decide) rfl (fun ls hl => ?_)
      refine lv_iload hx hb dX4_count_59 (lv_at hl 1 rfl) ?_
      refine lv_istore_n (lv' := [(3, .int (nI j)), (2, .int (nI (d + 1))), (4, .int (nI j)), (0, .ref (bd 0)), (1, .int x)]) hx hb dX4_count_61 rfl hl (by decide) rfl (fun ls hl => ?_)
      refine lv_aload_n hx hb dX4_count_62 rfl (lv_at hl 3 rfl) ?_
      refine k_get (T := TX4) (N := 15) (ci := 4) (k := 9) (q0 := 0) (v := .ref (bd 8)) S I in_X4_count_X4 rfl rfl (by decide) (by decide +kernel) rfl dX4_count_63 ?_
      refine lv_iload hx hb dX4_count_66 (lv_at hl 2 rfl) ?_
      refine k_iald (q0 := 8) (t0 := 11) (j := j) (x := M.2.2.1 j) S I rfl rfl (by omega) (by decide) rfl rfl dX4_count_68 ?_
      refine lv_istore (lv' := [(4, .int (M.2.2.1 j)), (3, .int (nI j)), (2, .int (nI (d + 1))), (0, .ref (bd 0)), (1, .int x)]) hx hb dX4_count_69 hl (by decide) rfl (fun ls hl => ?_)
      refine lv_goto (tgt := 51) hx hb dX4_count_71 (by decide) ?_
      refine ih (d + 1) (nI j) (M.2.2.1 j) (by omega) hc1 (fun l1 h0 h1 ls hl => ?_) ls (lv_sub hl [0, 1, 2, 3, 4] rfl)
      rw [show d + 1 + n = d + (n + 1) by omega] at hl
      refine hN l1 (fun h => absurd h (Nat.succ_ne_zero n)) (fun _ => ?_) ls hl
      cases n with
      | zero => exact ⟨j, h0 rfl, hj, hf, hg⟩
      | succ n => exact h1 (Nat.succ_pos n)
theorem k_sw05 (x : Int32) : (x.toInt < 0 ∨ 5 < x.toInt) ∨ x = 0 ∨ x = 1 ∨ x = 2 ∨ x = 3 ∨ x = 4 ∨ x = 5 := by
  by_cases h : x.toInt < 0 ∨ 5 < x.toInt
  · exact Or.inl h
  · have h2 : x.toInt = 0 ∨ x.toInt = 1 ∨ x.toInt = 2 ∨ x.toInt = 3 ∨ x.toInt = 4 ∨ x.toInt = 5 := by omega
    rcases h2 with h | h | h | h | h | h
    · exact Or.inr (Or.inl (k_ti h))
    · exact Or.inr (Or.inr (Or.inl (k_ti h)))
    · exact Or.inr (Or.inr (Or.inr (Or.inl (k_ti h))))
    · exact Or.inr (Or.inr (Or.inr (Or.inr (Or.inl (k_ti h)))))
    · exact Or.inr (Or.inr (Or.inr (Or.inr (Or.inr (Or.inl (k_ti h))))))
    · exact Or.inr (Or.inr (Or.inr (Or.inr (Or.inr (Or.inr (k_ti h))))))
set_option maxHeartbeats 4000000 in
set_option maxRecDepth 100000 in
/-- count, nothing came out -/
theorem c_mcount1a (l : Launch) (D : va_G) (cy : Nat → ClassId) (A : Nat → Prop) (bd : Nat → Nat) (C : rC) (N : rN) (M : mM) (rn code : Int32) (X : va_W) (x : Int32) (hx1 : ¬ x < 0 ∧ ¬ 6 < x) (T : rT) (hT : T.2.2 = 0) : Met l yX4_count wsX4_count ({ frames := 1, cells := 0, slots := 0, locals := 40 }) (va_Pc [.ref (bd 0), .int x] (KP D cy A (mdW bd cy C (N, M) rn (-1) code X))) (va_Qi (fun (r : Int32) (_ : Unit) => r = cnF N T rn x) (fun _ => KB D cy A (mdW bd cy C (N, M) rn (-1) 0 X)) A) 0 0 A := by
  refine k_open (own := RX4) (maxL := 5) (ret := (some .int)) (by decide) rfl rfl (Nat.le_of_ble_eq_true rfl) (fun p e s m args below meth c S hr hlk I ls hl => ?_)
  obtain ⟨hx, hb, hml, hown, hts⟩ := id S
  have hl : lv_has ls 5 [(0, .ref (bd 0)), (1, .int x)] := hl
  have z0 : nI N.2 = nI N.2 := rfl
  have z1 : rn = rn := rfl
  have z2 : (0 : Int32) = kdT T := by unfold kdT; rw [if_neg (by omega)]
  have z3 : (0 : Int32) = nbT T := by unfold nbT; rw [if_neg (by omega)]
  have z4 : (0 : Int32) = csT T := by unfold csT; rw [if_neg (by omega)]
  have z5 : (0 : Int32) = lkT T := by unfold lkT; rw [if_neg (by omega)]
  have z6 : (0 : Int32) = lnT T := by unfold lnT; rw [if_neg (by omega)]
  refine lv_aload_n hx hb dX4_count_0 rfl (lv_at hl 0 rfl) ?_
  refine lv_iload_n hx hb dX4_count_1 rfl (lv_at hl 1 rfl) ?_
  refine lv_if_lt (tgt := 15) hx hb dX4_count_2 (by decide) (fun c_2 => ?_) (fun c_2 => ?_)
  · exact absurd c_2 hx1.1
  · refine lv_iload_n hx hb dX4_count_5 rfl (lv_at hl 1 rfl) ?_
    refine lv_bipush (v := 6) hx hb dX4_count_6 (by decide) ?_
    refine lv_icmp_gt (tgt := 15) hx hb dX4_count_8 (by decide) (fun c_8 => ?_) (fun c_8 => ?_)
    · exact absurd c_8 hx1.2
    · refine lv_iconst (v := 1) hx hb dX4_count_11 (by decide) ?_
      refine lv_goto (tgt := 16) hx hb dX4_count_12 (by decide) ?_
      refine lv_iconst (v := 1) hx hb dX4_count_16 (by decide) ?_
      refine k_Vi (q0 := 0) (As := [.int 1, .int 1]) (rest := []) (w1 := mdW bd cy C (N, M) rn (-1) (gdC 1 1) X) (G := 1) S I (c_good l D cy A bd C N M rn (-1) code X 1 1 rfl) (cwV 2 hts gX4_count_X4_good rfl rfl rfl (by decide +kernel) ⟨Nat.le_of_ble_eq_true rfl, Nat.le_of_ble_eq_true rfl⟩) rfl rfl rfl rfl hl.1 rfl (Nat.le_of_ble_eq_true rfl) dX4_count_17 ⟨Nat.zero_le _, Nat.zero_le _⟩ (fun H locs I => ?_)
      refine lv_if_ne (tgt := 25) hx hb dX4_count_20 (by decide) (fun c_20 => ?_) (fun c_20 => ?_)
      · have I : KI D cy A (mdW bd cy C (N, M) rn (-1) 0 X) s H locs := I
        refine lv_iconst (v := 0) hx hb dX4_count_25 (by decide) ?_
        refine lv_istore_n (lv' := [(2, .int 0), (0, .ref (bd 0)), (1, .int x)]) hx hb dX4_count_26 rfl hl (by decide) rfl (fun ls hl => ?_)
        refine lv_iconst (v := (-1)) hx hb dX4_count_27 (by decide) ?_
        refine lv_istore_n (lv' := [(3, .int (-1)), (2, .int 0), (0, .ref (bd 0)), (1, .int x)]) hx hb dX4_count_28 rfl hl (by decide) rfl (fun ls hl => ?_)
        refine lv_aload_n hx hb dX4_count_29 rfl (lv_at hl 2 rfl) ?_
        refine k_get (T := TX4) (N := 15) (ci := 4) (k := 12) (q0 := 0) (v := .int (-1)) S I in_X4_count_X4 rfl rfl (by decide) (by decide +kernel) rfl dX4_count_30 ?_
        refine lv_if_ge (tgt := 40) hx hb dX4_count_33 (by decide) (fun c_33 => ?_) (fun c_33 => ?_)
        · exact absurd c_33 (by decide)
        · refine lv_iconst (v := (-1)) hx hb dX4_count_36 (by decide) ?_
          refine lv_goto (tgt := 49) hx hb dX4_count_37 (by decide) ?_
          refine lv_istore (lv' := [(4, .int (-1)), (3, .int (-1)), (2, .int 0), (0, .ref (bd 0)), (1, .int x)]) hx hb dX4_count_49 hl (by decide) rfl (fun ls hl => ?_)
          refine lv_iload hx hb dX4_count_51 (lv_at hl 0 rfl) ?_
          refine lv_if_lt (tgt := 74) hx hb dX4_count_53 (by decide) (fun c_53 => ?_) (fun c_53 => ?_)
          · refine lv_iload_n hx hb dX4_count_74 rfl (lv_at hl 4 rfl) ?_
            rcases k_sw05 x with c_75 | c_75 | c_75 | c_75 | c_75 | c_75 | c_75
            · refine lv_tableOut (tgt := 181) hx hb dX4_count_75 c_75 (by decide) ?_
              refine lv_iload_n hx hb dX4_count_181 rfl (lv_at hl 1 rfl) ?_
              refine lv_if_ge (tgt := 189) hx hb dX4_count_182 (by decide) (fun c_182 => ?_) (fun c_182 => ?_)
              · exact absurd c_182 (by decide)
              · refine lv_iconst (v := 0) hx hb dX4_count_185 (by decide) ?_
                refine lv_goto (tgt := 195) hx hb dX4_count_186 (by decide) ?_
                exact k_iret S hr hlk I (z6.trans (show cnF N T rn x = lnT T from by unfold cnF; rw [if_neg (k_ne c_75 (by decide)), if_neg (k_ne c_75 (by decide)), if_neg (k_ne c_75 (by decide)), if_neg (k_ne c_75 (by decide)), if_neg (k_ne c_75 (by decide)), if_neg (k_ne c_75 (by decide))]).symm) rfl dX4_count_195
            · refine lv_tableIn (tgt := 112) hx hb dX4_count_75 (by rw [c_75]; decide) (by rw [c_75]; decide) (by rw [c_75]; rfl) (by decide) ?_
              refine lv_aload_n hx hb dX4_count_112 rfl (lv_at hl 3 rfl) ?_
              refine k_get (T := TX4) (N := 15) (ci := 4) (k := 5) (q0 := 0) (v := .int (nI (N, M).1.2)) S I in_X4_count_X4 rfl rfl (by decide) (by decide +kernel) rfl dX4_count_113 ?_
              exact k_iret S hr hlk I (z0.trans (show cnF N T rn x = nI N.2 from by unfold cnF; rw [if_pos c_75]).symm) rfl dX4_count_116
            · refine lv_tableIn (tgt := 117) hx hb dX4_count_75 (by rw [c_75]; decide) (by rw [c_75]; decide) (by rw [c_75]; rfl) (by decide) ?_
              refine lv_aload_n hx hb dX4_count_117 rfl (lv_at hl 3 rfl) ?_
              refine k_get (T := TX4) (N := 15) (ci := 4) (k := 6) (q0 := 0) (v := .int rn) S I in_X4_count_X4 rfl rfl (by decide) (by decide +kernel) rfl dX4_count_118 ?_
              exact k_iret S hr hlk I (z1.trans (show cnF N T rn x = rn from by unfold cnF; rw [if_neg (by rw [c_75]; decide), if_pos c_75]).symm) rfl dX4_count_121
            · refine lv_tableIn (tgt := 122) hx hb dX4_count_75 (by rw [c_75]; decide) (by rw [c_75]; decide) (by rw [c_75]; rfl) (by decide) ?_
              refine lv_aload_n hx hb dX4_count_122 rfl (lv_at hl 3 rfl) ?_
              refine k_get (T := TX4) (N := 15) (ci := 4) (k := 12) (q0 := 0) (v := .int (-1)) S I in_X4_count_X4 rfl rfl (by decide) (by decide +kernel) rfl dX4_count_123 ?_
              refine lv_if_ge (tgt := 133) hx hb dX4_count_126 (by decide) (fun c_126 => ?_) (fun c_126 => ?_)
              · exact absurd c_126 (by decide)
              · refine lv_iconst (v := 0) hx hb dX4_count_129 (by decide) ?_
                refine lv_goto (tgt := 142) hx hb dX4_count_130 (by decide) ?_
                exact k_iret S hr hlk I (z2.trans (show cnF N T rn x = kdT T from by unfold cnF; rw [if_neg (by rw [c_75]; decide), if_neg (by rw [c_75]; decide), if_pos c_75]).symm) rfl dX4_count_142
            · refine lv_tableIn (tgt := 143) hx hb dX4_count_75 (by rw [c_75]; decide) (by rw [c_75]; decide) (by rw [c_75]; rfl) (by decide) ?_
              refine lv_aload_n hx hb dX4_count_143 rfl (lv_at hl 3 rfl) ?_
              refine k_get (T := TX4) (N := 15) (ci := 4) (k := 12) (q0 := 0) (v := .int (-1)) S I in_X4_count_X4 rfl rfl (by decide) (by decide +kernel) rfl dX4_count_144 ?_
              refine lv_if_ge (tgt := 154) hx hb dX4_count_147 (by decide) (fun c_147 => ?_) (fun c_147 => ?_)
              · exact absurd c_147 (by decide)
              · refine lv_iconst (v := 0) hx hb dX4_count_150 (by decide) ?_
                refine lv_goto (tgt := 163) hx hb dX4_count_151 (by decide) ?_
                exact k_iret S hr hlk I (z3.trans (show cnF N T rn x = nbT T from by unfold cnF; rw [if_neg (by rw [c_75]; decide), if_neg (by rw [c_75]; decide), if_neg (by rw [c_75]; decide), if_pos c_75]).symm) rfl dX4_count_163
            · refine lv_tableIn (tgt := 164) hx hb dX4_count_75 (by rw [c_75]; decide) (by rw [c_75]; decide) (by rw [c_75]; rfl) (by decide) ?_
              refine lv_iload_n hx hb dX4_count_164 rfl (lv_at hl 2 rfl) ?_
              exact k_iret S hr hlk I (z4.trans (show cnF N T rn x = csT T from by unfold cnF; rw [if_neg (by rw [c_75]; decide), if_neg (by rw [c_75]; decide), if_neg (by rw [c_75]; decide), if_neg (by rw [c_75]; decide), if_pos c_75]).symm) rfl dX4_count_165
            · refine lv_tableIn (tgt := 166) hx hb dX4_count_75 (by rw [c_75]; decide) (by rw [c_75]; decide) (by rw [c_75]; rfl) (by decide) ?_
              refine lv_iload_n hx hb dX4_count_166 rfl (lv_at hl 1 rfl) ?_
              refine lv_if_ge (tgt := 174) hx hb dX4_count_167 (by decide) (fun c_167 => ?_) (fun c_167 => ?_)
              · exact absurd c_167 (by decide)
              · refine lv_iconst (v := 0) hx hb dX4_count_170 (by decide) ?_
                refine lv_goto (tgt := 180) hx hb dX4_count_171 (by decide) ?_
                exact k_iret S hr hlk I (z5.trans (show cnF N T rn x = lkT T from by unfold cnF; rw [if_neg (by rw [c_75]; decide), if_neg (by rw [c_75]; decide), if_neg (by rw [c_75]; decide), if_neg (by rw [c_75]; decide), if_neg (by rw [c_75]; decide), if_pos c_75]).symm) rfl dX4_count_180
          · exact absurd (by decide) c_53
      · exact absurd c_20 (by decide)
set_option maxHeartbeats 4000000 in
set_option maxRecDepth 100000 in
/-- count of what came out -/
theorem c_mcount1b (l : Launch) (D : va_G) (cy : Nat → ClassId) (A : Nat → Prop) (bd : Nat → Nat) (C : rC) (N : rN) (M : mM) (rn code : Int32) (X : va_W) (x : Int32) (hx1 : ¬ x < 0 ∧ ¬ 6 < x) (T : rT) (hT7 : T.2.2 ≤ 7) (hM : M.2.2.2.1 ≤ 4096) (n : Nat) (hT : T.2.2 = n + 1) (j : Nat) (hj : j < M.2.2.2.1) (hf : M.1 j = T.1 n) (hg : M.2.1 j = T.2.1 n) (hc1 : chM M T.1 T.2.1 n (M.2.2.1 j)) : Met l yX4_count wsX4_count ({ frames := 1, cells := 0, slots := 0, locals := 40 }) (va_Pc [.ref (bd 0), .int x] (KP D cy A (mdW bd cy C (N, M) rn (nI j) code X))) (va_Qi (fun (r : Int32) (_ : Unit) => r = cnF N T rn x) (fun _ => KB D cy A (mdW bd cy C (N, M) rn (nI j) 0 X)) A) 0 0 A := by
  refine k_open (own := RX4) (maxL := 5) (ret := (some .int)) (by decide) rfl rfl (Nat.le_of_ble_eq_true rfl) (fun p e s m args below meth c S hr hlk I ls hl => ?_)
  obtain ⟨hx, hb, hml, hown, hts⟩ := id S
  have hl : lv_has ls 5 [(0, .ref (bd 0)), (1, .int x)] := hl
  refine lv_aload_n hx hb dX4_count_0 rfl (lv_at hl 0 rfl) ?_
  refine lv_iload_n hx hb dX4_count_1 rfl (lv_at hl 1 rfl) ?_
  refine lv_if_lt (tgt := 15) hx hb dX4_count_2 (by decide) (fun c_2 => ?_) (fun c_2 => ?_)
  · exact absurd c_2 hx1.1
  · refine lv_iload_n hx hb dX4_count_5 rfl (lv_at hl 1 rfl) ?_
    refine lv_bipush (v := 6) hx hb dX4_count_6 (by decide) ?_
    refine lv_icmp_gt (tgt := 15) hx hb dX4_count_8 (by decide) (fun c_8 => ?_) (fun c_8 => ?_)
    · exact absurd c_8 hx1.2
    · refine lv_iconst (v := 1) hx hb dX4_count_11 (by decide) ?_
      refine lv_goto (tgt := 16) hx hb dX4_count_12 (by decide) ?_
      refine lv_iconst (v := 1) hx hb dX4_count_16 (by decide) ?_
      refine k_Vi (q0 := 0) (As := [.int 1, .int 1]) (rest := []) (w1 := mdW bd cy C (N, M) rn (nI j) (gdC 1 1) X) (G := 1) S I (c_good l D cy A bd C N M rn (nI j) code X 1 1 rfl) (cwV 2 hts gX4_count_X4_good rfl rfl rfl (by decide +kernel) ⟨Nat.le_of_ble_eq_true rfl, Nat.le_of_ble_eq_true rfl⟩) rfl rfl rfl rfl hl.1 rfl (Nat.le_of_ble_eq_true rfl) dX4_count_17 ⟨Nat.zero_le _, Nat.zero_le _⟩ (fun H locs I => ?_)
      refine lv_if_ne (tgt := 25) hx hb dX4_count_20 (by decide) (fun c_20 => ?_) (fun c_20 => ?_)
      · have I : KI D cy A (mdW bd cy C (N, M) rn (nI j) 0 X) s H locs := I
        refine lv_iconst (v := 0) hx hb dX4_count_25 (by decide) ?_
        refine lv_istore_n (lv' := [(2, .int 0), (0, .ref (bd 0)), (1, .int x)]) hx hb dX4_count_26 rfl hl (by decide) rfl (fun ls hl => ?_)
        refine lv_iconst (v := (-1)) hx hb dX4_count_27 (by decide) ?_
        refine lv_istore_n (lv' := [(3, .int (-1)), (2, .int 0), (0, .ref (bd 0)), (1, .int x)]) hx hb dX4_count_28 rfl hl (by decide) rfl (fun ls hl => ?_)
        refine lv_aload_n hx hb dX4_count_29 rfl (lv_at hl 2 rfl) ?_
        refine k_get (T := TX4) (N := 15) (ci := 4) (k := 12) (q0 := 0) (v := .int (nI j)) S I in_X4_count_X4 rfl rfl (by decide) (by decide +kernel) rfl dX4_count_30 ?_
        refine lv_if_ge (tgt := 40) hx hb dX4_count_33 (by decide) (fun c_33 => ?_) (fun c_33 => ?_)
        · refine lv_aload_n hx hb dX4_count_40 rfl (lv_at hl 2 rfl) ?_
          refine k_get (T := TX4) (N := 15) (ci := 4) (k := 9) (q0 := 0) (v := .ref (bd 8)) S I in_X4_count_X4 rfl rfl (by decide) (by decide +kernel) rfl dX4_count_41 ?_
          refine lv_aload_n hx hb dX4_count_44 rfl (lv_at hl 2 rfl) ?_
          refine k_get (T := TX4) (N := 15) (ci := 4) (k := 12) (q0 := 0) (v := .int (nI j)) S I in_X4_count_X4 rfl rfl (by decide) (by decide +kernel) rfl dX4_count_45 ?_
          refine k_iald (q0 := 8) (t0 := 11) (j := j) (x := M.2.2.1 j) S I rfl rfl (by omega) (by decide) rfl rfl dX4_count_48 ?_
          refine lv_istore (lv' := [(4, .int (M.2.2.1 j)), (3, .int (-1)), (2, .int 0), (0, .ref (bd 0)), (1, .int x)]) hx hb dX4_count_49 hl (by decide) rfl (fun ls hl => ?_)
          refine lp_count S hM I n 0 (-1) (M.2.2.1 j) (by omega) hc1 (fun l1 h0 h1 ls hl => ?_) ls (lv_sub hl [0, 1, 2, 3, 4] rfl)
          rw [Nat.zero_add] at hl
          rcases Nat.eq_zero_or_pos n with hn | hn
          · obtain rfl : l1 = -1 := h0 hn
            refine lv_iload_n hx hb dX4_count_74 rfl (lv_at hl 4 rfl) ?_
            rcases k_sw05 x with c_75 | c_75 | c_75 | c_75 | c_75 | c_75 | c_75
            · refine lv_tableOut (tgt := 181) hx hb dX4_count_75 c_75 (by decide) ?_
              refine lv_iload_n hx hb dX4_count_181 rfl (lv_at hl 1 rfl) ?_
              refine lv_if_ge (tgt := 189) hx hb dX4_count_182 (by decide) (fun c_182 => ?_) (fun c_182 => ?_)
              · exact absurd c_182 (by decide)
              · refine lv_iconst (v := 0) hx hb dX4_count_185 (by decide) ?_
                refine lv_goto (tgt := 195) hx hb dX4_count_186 (by decide) ?_
                exact k_iret S hr hlk I ((show (0 : Int32) = lnT T by unfold lnT; rw [if_neg (by omega)]).trans (show cnF N T rn x = lnT T from by unfold cnF; rw [if_neg (k_ne c_75 (by decide)), if_neg (k_ne c_75 (by decide)), if_neg (k_ne c_75 (by decide)), if_neg (k_ne c_75 (by decide)), if_neg (k_ne c_75 (by decide)), if_neg (k_ne c_75 (by decide))]).symm) rfl dX4_count_195
            · refine lv_tableIn (tgt := 112) hx hb dX4_count_75 (by rw [c_75]; decide) (by rw [c_75]; decide) (by rw [c_75]; rfl) (by decide) ?_
              refine lv_aload_n hx hb dX4_count_112 rfl (lv_at hl 3 rfl) ?_
              refine k_get (T := TX4) (N := 15) (ci := 4) (k := 5) (q0 := 0) (v := .int (nI (N, M).1.2)) S I in_X4_count_X4 rfl rfl (by decide) (by decide +kernel) rfl dX4_count_113 ?_
              exact k_iret S hr hlk I ((show nI N.2 = nI N.2 from rfl).trans (show cnF N T rn x = nI N.2 from by unfold cnF; rw [if_pos c_75]).symm) rfl dX4_count_116
            · refine lv_tableIn (tgt := 117) hx hb dX4_count_75 (by rw [c_75]; decide) (by rw [c_75]; decide) (by rw [c_75]; rfl) (by decide) ?_
              refine lv_aload_n hx hb dX4_count_117 rfl (lv_at hl 3 rfl) ?_
              refine k_get (T := TX4) (N := 15) (ci := 4) (k := 6) (q0 := 0) (v := .int rn) S I in_X4_count_X4 rfl rfl (by decide) (by decide +kernel) rfl dX4_count_118 ?_
              exact k_iret S hr hlk I ((show rn = rn from rfl).trans (show cnF N T rn x = rn from by unfold cnF; rw [if_neg (by rw [c_75]; decide), if_pos c_75]).symm) rfl dX4_count_121
            · refine lv_tableIn (tgt := 122) hx hb dX4_count_75 (by rw [c_75]; decide) (by rw [c_75]; decide) (by rw [c_75]; rfl) (by decide) ?_
              refine lv_aload_n hx hb dX4_count_122 rfl (lv_at hl 3 rfl) ?_
              refine k_get (T := TX4) (N := 15) (ci := 4) (k := 12) (q0 := 0) (v := .int (nI j)) S I in_X4_count_X4 rfl rfl (by decide) (by decide +kernel) rfl dX4_count_123 ?_
              refine lv_if_ge (tgt := 133) hx hb dX4_count_126 (by decide) (fun c_126 => ?_) (fun c_126 => ?_)
              · refine lv_aload_n hx hb dX4_count_133 rfl (lv_at hl 3 rfl) ?_
                refine k_get (T := TX4) (N := 15) (ci := 4) (k := 7) (q0 := 0) (v := .ref (bd 6)) S I in_X4_count_X4 rfl rfl (by decide) (by decide +kernel) rfl dX4_count_134 ?_
                refine lv_aload_n hx hb dX4_count_137 rfl (lv_at hl 3 rfl) ?_
                refine k_get (T := TX4) (N := 15) (ci := 4) (k := 12) (q0 := 0) (v := .int (nI j)) S I in_X4_count_X4 rfl rfl (by decide) (by decide +kernel) rfl dX4_count_138 ?_
                refine k_iald (q0 := 6) (t0 := 9) (j := j) (x := M.1 j) S I rfl rfl (by omega) (by decide) rfl rfl dX4_count_141 ?_
                exact k_iret S hr hlk I ((show M.1 j = kdT T by unfold kdT; rw [hT, if_pos (Nat.succ_pos n)]; exact hf).trans (show cnF N T rn x = kdT T from by unfold cnF; rw [if_neg (by rw [c_75]; decide), if_neg (by rw [c_75]; decide), if_pos c_75]).symm) rfl dX4_count_142
              · exact absurd (nI_pos' (by omega)) c_126
            · refine lv_tableIn (tgt := 143) hx hb dX4_count_75 (by rw [c_75]; decide) (by rw [c_75]; decide) (by rw [c_75]; rfl) (by decide) ?_
              refine lv_aload_n hx hb dX4_count_143 rfl (lv_at hl 3 rfl) ?_
              refine k_get (T := TX4) (N := 15) (ci := 4) (k := 12) (q0 := 0) (v := .int (nI j)) S I in_X4_count_X4 rfl rfl (by decide) (by decide +kernel) rfl dX4_count_144 ?_
              refine lv_if_ge (tgt := 154) hx hb dX4_count_147 (by decide) (fun c_147 => ?_) (fun c_147 => ?_)
              · refine lv_aload_n hx hb dX4_count_154 rfl (lv_at hl 3 rfl) ?_
                refine k_get (T := TX4) (N := 15) (ci := 4) (k := 8) (q0 := 0) (v := .ref (bd 7)) S I in_X4_count_X4 rfl rfl (by decide) (by decide +kernel) rfl dX4_count_155 ?_
                refine lv_aload_n hx hb dX4_count_158 rfl (lv_at hl 3 rfl) ?_
                refine k_get (T := TX4) (N := 15) (ci := 4) (k := 12) (q0 := 0) (v := .int (nI j)) S I in_X4_count_X4 rfl rfl (by decide) (by decide +kernel) rfl dX4_count_159 ?_
                refine k_iald (q0 := 7) (t0 := 10) (j := j) (x := M.2.1 j) S I rfl rfl (by omega) (by decide) rfl rfl dX4_count_162 ?_
                exact k_iret S hr hlk I ((show M.2.1 j = nbT T by unfold nbT; rw [hT, if_pos (Nat.succ_pos n)]; exact hg).trans (show cnF N T rn x = nbT T from by unfold cnF; rw [if_neg (by rw [c_75]; decide), if_neg (by rw [c_75]; decide), if_neg (by rw [c_75]; decide), if_pos c_75]).symm) rfl dX4_count_163
              · exact absurd (nI_pos' (by omega)) c_147
            · refine lv_tableIn (tgt := 164) hx hb dX4_count_75 (by rw [c_75]; decide) (by rw [c_75]; decide) (by rw [c_75]; rfl) (by decide) ?_
              refine lv_iload_n hx hb dX4_count_164 rfl (lv_at hl 2 rfl) ?_
              exact k_iret S hr hlk I ((show nI n = csT T by unfold csT; rw [hT, if_pos (Nat.succ_pos n)]; rfl).trans (show cnF N T rn x = csT T from by unfold cnF; rw [if_neg (by rw [c_75]; decide), if_neg (by rw [c_75]; decide), if_neg (by rw [c_75]; decide), if_neg (by rw [c_75]; decide), if_pos c_75]).symm) rfl dX4_count_165
            · refine lv_tableIn (tgt := 166) hx hb dX4_count_75 (by rw [c_75]; decide) (by rw [c_75]; decide) (by rw [c_75]; rfl) (by decide) ?_
              refine lv_iload_n hx hb dX4_count_166 rfl (lv_at hl 1 rfl) ?_
              refine lv_if_ge (tgt := 174) hx hb dX4_count_167 (by decide) (fun c_167 => ?_) (fun c_167 => ?_)
              · exact absurd c_167 (by decide)
              · refine lv_iconst (v := 0) hx hb dX4_count_170 (by decide) ?_
                refine lv_goto (tgt := 180) hx hb dX4_count_171 (by decide) ?_
                exact k_iret S hr hlk I ((show (0 : Int32) = lkT T by unfold lkT; rw [if_neg (by omega)]).trans (show cnF N T rn x = lkT T from by unfold cnF; rw [if_neg (by rw [c_75]; decide), if_neg (by rw [c_75]; decide), if_neg (by rw [c_75]; decide), if_neg (by rw [c_75]; decide), if_neg (by rw [c_75]; decide), if_pos c_75]).symm) rfl dX4_count_180
          · obtain ⟨i, hl1, hi, hfi, hgi⟩ := h1 hn
            subst hl1
            refine lv_iload_n hx hb dX4_count_74 rfl (lv_at hl 4 rfl) ?_
            rcases k_sw05 x with c_75 | c_75 | c_75 | c_75 | c_75 | c_75 | c_75
            · refine lv_tableOut (tgt := 181) hx hb dX4_count_75 c_75 (by decide) ?_
              refine lv_iload_n hx hb dX4_count_181 rfl (lv_at hl 1 rfl) ?_
              refine lv_if_ge (tgt := 189) hx hb dX4_count_182 (by decide) (fun c_182 => ?_) (fun c_182 => ?_)
              · refine lv_aload_n hx hb dX4_count_189 rfl (lv_at hl 3 rfl) ?_
                refine k_get (T := TX4) (N := 15) (ci := 4) (k := 8) (q0 := 0) (v := .ref (bd 7)) S I in_X4_count_X4 rfl rfl (by decide) (by decide +kernel) rfl dX4_count_190 ?_
                refine lv_iload_n hx hb dX4_count_193 rfl (lv_at hl 1 rfl) ?_
                refine k_iald (q0 := 7) (t0 := 10) (j := i) (x := M.2.1 i) S I rfl rfl (by omega) (by decide) rfl rfl dX4_count_194 ?_
                exact k_iret S hr hlk I ((show M.2.1 i = lnT T by unfold lnT; rw [if_pos (by omega)]; exact hgi).trans (show cnF N T rn x = lnT T from by unfold cnF; rw [if_neg (k_ne c_75 (by decide)), if_neg (k_ne c_75 (by decide)), if_neg (k_ne c_75 (by decide)), if_neg (k_ne c_75 (by decide)), if_neg (k_ne c_75 (by decide)), if_neg (k_ne c_75 (by decide))]).symm) rfl dX4_count_195
              · exact absurd (nI_pos' (by omega)) c_182
            · refine lv_tableIn (tgt := 112) hx hb dX4_count_75 (by rw [c_75]; decide) (by rw [c_75]; decide) (by rw [c_75]; rfl) (by decide) ?_
              refine lv_aload_n hx hb dX4_count_112 rfl (lv_at hl 3 rfl) ?_
              refine k_get (T := TX4) (N := 15) (ci := 4) (k := 5) (q0 := 0) (v := .int (nI (N, M).1.2)) S I in_X4_count_X4 rfl rfl (by decide) (by decide +kernel) rfl dX4_count_113 ?_
              exact k_iret S hr hlk I ((show nI N.2 = nI N.2 from rfl).trans (show cnF N T rn x = nI N.2 from by unfold cnF; rw [if_pos c_75]).symm) rfl dX4_count_116
            · refine lv_tableIn (tgt := 117) hx hb dX4_count_75 (by rw [c_75]; decide) (by rw [c_75]; decide) (by rw [c_75]; rfl) (by decide) ?_
              refine lv_aload_n hx hb dX4_count_117 rfl (lv_at hl 3 rfl) ?_
              refine k_get (T := TX4) (N := 15) (ci := 4) (k := 6) (q0 := 0) (v := .int rn) S I in_X4_count_X4 rfl rfl (by decide) (by decide +kernel) rfl dX4_count_118 ?_
              exact k_iret S hr hlk I ((show rn = rn from rfl).trans (show cnF N T rn x = rn from by unfold cnF; rw [if_neg (by rw [c_75]; decide), if_pos c_75]).symm) rfl dX4_count_121
            · refine lv_tableIn (tgt := 122) hx hb dX4_count_75 (by rw [c_75]; decide) (by rw [c_75]; decide) (by rw [c_75]; rfl) (by decide) ?_
              refine lv_aload_n hx hb dX4_count_122 rfl (lv_at hl 3 rfl) ?_
              refine k_get (T := TX4) (N := 15) (ci := 4) (k := 12) (q0 := 0) (v := .int (nI j)) S I in_X4_count_X4 rfl rfl (by decide) (by decide +kernel) rfl dX4_count_123 ?_
              refine lv_if_ge (tgt := 133) hx hb dX4_count_126 (by decide) (fun c_126 => ?_) (fun c_126 => ?_)
              · refine lv_aload_n hx hb dX4_count_133 rfl (lv_at hl 3 rfl) ?_
                refine k_get (T := TX4) (N := 15) (ci := 4) (k := 7) (q0 := 0) (v := .ref (bd 6)) S I in_X4_count_X4 rfl rfl (by decide) (by decide +kernel) rfl dX4_count_134 ?_
                refine lv_aload_n hx hb dX4_count_137 rfl (lv_at hl 3 rfl) ?_
                refine k_get (T := TX4) (N := 15) (ci := 4) (k := 12) (q0 := 0) (v := .int (nI j)) S I in_X4_count_X4 rfl rfl (by decide) (by decide +kernel) rfl dX4_count_138 ?_
                refine k_iald (q0 := 6) (t0 := 9) (j := j) (x := M.1 j) S I rfl rfl (by omega) (by decide) rfl rfl dX4_count_141 ?_
                exact k_iret S hr hlk I ((show M.1 j = kdT T by unfold kdT; rw [hT, if_pos (Nat.succ_pos n)]; exact hf).trans (show cnF N T rn x = kdT T from by unfold cnF; rw [if_neg (by rw [c_75]; decide), if_neg (by rw [c_75]; decide), if_pos c_75]).symm) rfl dX4_count_142
              · exact absurd (nI_pos' (by omega)) c_126
            · refine lv_tableIn (tgt := 143) hx hb dX4_count_75 (by rw [c_75]; decide) (by rw [c_75]; decide) (by rw [c_75]; rfl) (by decide) ?_
              refine lv_aload_n hx hb dX4_count_143 rfl (lv_at hl 3 rfl) ?_
              refine k_get (T := TX4) (N := 15) (ci := 4) (k := 12) (q0 := 0) (v := .int (nI j)) S I in_X4_count_X4 rfl rfl (by decide) (by decide +kernel) rfl dX4_count_144 ?_
              refine lv_if_ge (tgt := 154) hx hb dX4_count_147 (by decide) (fun c_147 => ?_) (fun c_147 => ?_)
              · refine lv_aload_n hx hb dX4_count_154 rfl (lv_at hl 3 rfl) ?_
                refine k_get (T := TX4) (N := 15) (ci := 4) (k := 8) (q0 := 0) (v := .ref (bd 7)) S I in_X4_count_X4 rfl rfl (by decide) (by decide +kernel) rfl dX4_count_155 ?_
                refine lv_aload_n hx hb dX4_count_158 rfl (lv_at hl 3 rfl) ?_
                refine k_get (T := TX4) (N := 15) (ci := 4) (k := 12) (q0 := 0) (v := .int (nI j)) S I in_X4_count_X4 rfl rfl (by decide) (by decide +kernel) rfl dX4_count_159 ?_
                refine k_iald (q0 := 7) (t0 := 10) (j := j) (x := M.2.1 j) S I rfl rfl (by omega) (by decide) rfl rfl dX4_count_162 ?_
                exact k_iret S hr hlk I ((show M.2.1 j = nbT T by unfold nbT; rw [hT, if_pos (Nat.succ_pos n)]; exact hg).trans (show cnF N T rn x = nbT T from by unfold cnF; rw [if_neg (by rw [c_75]; decide), if_neg (by rw [c_75]; decide), if_neg (by rw [c_75]; decide), if_pos c_75]).symm) rfl dX4_count_163
              · exact absurd (nI_pos' (by omega)) c_147
            · refine lv_tableIn (tgt := 164) hx hb dX4_count_75 (by rw [c_75]; decide) (by rw [c_75]; decide) (by rw [c_75]; rfl) (by decide) ?_
              refine lv_iload_n hx hb dX4_count_164 rfl (lv_at hl 2 rfl) ?_
              exact k_iret S hr hlk I ((show nI n = csT T by unfold csT; rw [hT, if_pos (Nat.succ_pos n)]; rfl).trans (show cnF N T rn x = csT T from by unfold cnF; rw [if_neg (by rw [c_75]; decide), if_neg (by rw [c_75]; decide), if_neg (by rw [c_75]; decide), if_neg (by rw [c_75]; decide), if_pos c_75]).symm) rfl dX4_count_165
            · refine lv_tableIn (tgt := 166) hx hb dX4_count_75 (by rw [c_75]; decide) (by rw [c_75]; decide) (by rw [c_75]; rfl) (by decide) ?_
              refine lv_iload_n hx hb dX4_count_166 rfl (lv_at hl 1 rfl) ?_
              refine lv_if_ge (tgt := 174) hx hb dX4_count_167 (by decide) (fun c_167 => ?_) (fun c_167 => ?_)
              · refine lv_aload_n hx hb dX4_count_174 rfl (lv_at hl 3 rfl) ?_
                refine k_get (T := TX4) (N := 15) (ci := 4) (k := 7) (q0 := 0) (v := .ref (bd 6)) S I in_X4_count_X4 rfl rfl (by decide) (by decide +kernel) rfl dX4_count_175 ?_
                refine lv_iload_n hx hb dX4_count_178 rfl (lv_at hl 1 rfl) ?_
                refine k_iald (q0 := 6) (t0 := 9) (j := i) (x := M.1 i) S I rfl rfl (by omega) (by decide) rfl rfl dX4_count_179 ?_
                exact k_iret S hr hlk I ((show M.1 i = lkT T by unfold lkT; rw [if_pos (by omega)]; exact hfi).trans (show cnF N T rn x = lkT T from by unfold cnF; rw [if_neg (by rw [c_75]; decide), if_neg (by rw [c_75]; decide), if_neg (by rw [c_75]; decide), if_neg (by rw [c_75]; decide), if_neg (by rw [c_75]; decide), if_pos c_75]).symm) rfl dX4_count_180
              · exact absurd (nI_pos' (by omega)) c_167
        · exact absurd (nI_pos' (by omega)) c_33
      · exact absurd c_20 (by decide)
