/-! THE REFERENCE: its methods but rise, run and count, laid by wip/whole/mod1.py -/
theorem in_X4_thrown_X4 : ∀ w ∈ u_ws RX4 TX4 15, w ∈ wsX4_thrown := by decide +kernel
set_option maxHeartbeats 4000000 in
set_option maxRecDepth 100000 in
/-- thrown -/
theorem c_thrown (l : Launch) (D : va_G) (cy : Nat → ClassId) (A : Nat → Prop) (bd : Nat → Nat) (C : rC) (N : rN) (M : mM) (rn out code : Int32) (X : va_W) : Met l yX4_thrown wsX4_thrown ({ frames := 0, cells := 0, slots := 0, locals := 0 }) (va_Pc [.ref (bd 0)] (KP D cy A (mdW bd cy C (N, M) rn out code X))) (va_Qi (fun (r : Int32) (_ : Unit) => r = code) (fun _ => KB D cy A (mdW bd cy C (N, M) rn out code X)) A) 0 0 A := by
  refine k_open (own := RX4) (maxL := 1) (ret := (some .int)) (by decide) rfl rfl (Nat.le_of_ble_eq_true rfl) (fun p e s m args below meth c S hr hlk I ls hl => ?_)
  obtain ⟨hx, hb, hml, hown, hts⟩ := id S
  have hl : lv_has ls 1 [(0, .ref (bd 0))] := hl
  refine lv_aload_n hx hb dX4_thrown_0 rfl (lv_at hl 0 rfl) ?_
  refine k_get (T := TX4) (N := 15) (ci := 4) (k := 13) (q0 := 0) (v := .int code) S I in_X4_thrown_X4 rfl rfl (by decide) (by decide +kernel) rfl dX4_thrown_1 ?_
  exact k_iret S hr hlk I rfl rfl dX4_thrown_4
def gdC (y z : Int32) : Int32 := if y = 0 then z else 0
theorem in_X4_good_X4 : ∀ w ∈ u_ws RX4 TX4 15, w ∈ wsX4_good := by decide +kernel
set_option maxHeartbeats 4000000 in
set_option maxRecDepth 100000 in
/-- good -/
theorem c_good (l : Launch) (D : va_G) (cy : Nat → ClassId) (A : Nat → Prop) (bd : Nat → Nat) (C : rC) (N : rN) (M : mM) (rn out code : Int32) (X : va_W) (y z : Int32) (hy : narrow .boolean (.int y) = .int y) : Met l yX4_good wsX4_good ({ frames := 0, cells := 0, slots := 0, locals := 0 }) (va_Pc [.ref (bd 0), .int y, .int z] (KP D cy A (mdW bd cy C (N, M) rn out code X))) (va_Qi (fun (r : Int32) (_ : Unit) => r = y) (fun _ => KB D cy A (mdW bd cy C (N, M) rn out (gdC y z) X)) A) 0 0 A := by
  refine k_open (own := RX4) (maxL := 3) (ret := (some .boolean)) (by decide) rfl rfl (Nat.le_of_ble_eq_true rfl) (fun p e s m args below meth c S hr hlk I ls hl => ?_)
  obtain ⟨hx, hb, hml, hown, hts⟩ := id S
  have hl : lv_has ls 3 [(0, .ref (bd 0)), (1, .int y), (2, .int z)] := hl
  refine lv_aload_n hx hb dX4_good_0 rfl (lv_at hl 0 rfl) ?_
  refine lv_iload_n hx hb dX4_good_1 rfl (lv_at hl 1 rfl) ?_
  refine lv_if_eq (tgt := 9) hx hb dX4_good_2 (by decide) (fun c_2 => ?_) (fun c_2 => ?_)
  · refine lv_iload_n hx hb dX4_good_9 rfl (lv_at hl 2 rfl) ?_
    refine k_put (T := TX4) (N := 15) (ci := 4) (k := 13) (q0 := 0) (v := .int z) (ty := .int) (fs := [.ref (bd 1), .ref (bd 2), .ref (bd 3), .ref (bd 4), .ref (bd 5), .int (nI (N, M).1.2), .int rn, .ref (bd 6), .ref (bd 7), .ref (bd 8), .int (nI (N, M).2.2.2.2.1), .long (N, M).2.2.2.2.2.1, .int out, .int code, .ref (bd 9)]) (w1 := mdW bd cy C (N, M) rn out z X) S I in_X4_good_X4 tyX4 tyX4_ok nmX4 rfl rfl (by decide) (by decide +kernel) rfl rfl rfl rfl (Nat.le_of_ble_eq_true rfl) rfl dX4_good_10 (fun H locs I => ?_)
    refine lv_iload_n hx hb dX4_good_13 rfl (lv_at hl 1 rfl) ?_
    exact k_zret S hr hlk I hy rfl (by unfold gdC; rw [if_pos c_2]) dX4_good_14
  · refine lv_iconst (v := 0) hx hb dX4_good_5 (by decide) ?_
    refine lv_goto (tgt := 10) hx hb dX4_good_6 (by decide) ?_
    refine k_put (T := TX4) (N := 15) (ci := 4) (k := 13) (q0 := 0) (v := .int 0) (ty := .int) (fs := [.ref (bd 1), .ref (bd 2), .ref (bd 3), .ref (bd 4), .ref (bd 5), .int (nI (N, M).1.2), .int rn, .ref (bd 6), .ref (bd 7), .ref (bd 8), .int (nI (N, M).2.2.2.2.1), .long (N, M).2.2.2.2.2.1, .int out, .int code, .ref (bd 9)]) (w1 := mdW bd cy C (N, M) rn out 0 X) S I in_X4_good_X4 tyX4 tyX4_ok nmX4 rfl rfl (by decide) (by decide +kernel) rfl rfl rfl rfl (Nat.le_of_ble_eq_true rfl) rfl dX4_good_10 (fun H locs I => ?_)
    refine lv_iload_n hx hb dX4_good_13 rfl (lv_at hl 1 rfl) ?_
    exact k_zret S hr hlk I hy rfl (by unfold gdC; rw [if_neg c_2]) dX4_good_14
set_option maxHeartbeats 4000000 in
set_option maxRecDepth 100000 in
/-- isLevel -/
theorem c_misLevel (l : Launch) (D : va_G) (cy : Nat → ClassId) (A : Nat → Prop) (bd : Nat → Nat) (C : rC) (N : rN) (M : mM) (rn out code : Int32) (X : va_W) (x : Int32) : Met l yX4_isLevel wsX4_isLevel ({ frames := 0, cells := 0, slots := 0, locals := 0 }) (va_Pc [.int x] (KP D cy A (mdW bd cy C (N, M) rn out code X))) (va_Qi (fun (r : Int32) (_ : Unit) => r = isL x) (fun _ => KB D cy A (mdW bd cy C (N, M) rn out code X)) A) 0 0 A := by
  refine k_open (own := RX4) (maxL := 1) (ret := (some .boolean)) (by decide) rfl rfl (Nat.le_of_ble_eq_true rfl) (fun p e s m args below meth c S hr hlk I ls hl => ?_)
  obtain ⟨hx, hb, hml, hown, hts⟩ := id S
  have hl : lv_has ls 1 [(0, .int x)] := hl
  refine lv_iload_n hx hb dX4_isLevel_0 rfl (lv_at hl 0 rfl) ?_
  refine lv_if_lt (tgt := 14) hx hb dX4_isLevel_1 (by decide) (fun c_1 => ?_) (fun c_1 => ?_)
  · refine lv_iconst (v := 0) hx hb dX4_isLevel_14 (by decide) ?_
    exact k_zret S hr hlk I (by decide) (by unfold isL; rw [if_pos c_1]) rfl dX4_isLevel_15
  · refine lv_iload_n hx hb dX4_isLevel_4 rfl (lv_at hl 0 rfl) ?_
    refine lv_bipush (v := 6) hx hb dX4_isLevel_5 (by decide) ?_
    refine lv_icmp_ge (tgt := 14) hx hb dX4_isLevel_7 (by decide) (fun c_7 => ?_) (fun c_7 => ?_)
    · refine lv_iconst (v := 0) hx hb dX4_isLevel_14 (by decide) ?_
      exact k_zret S hr hlk I (by decide) (by unfold isL; rw [if_neg c_1, if_pos c_7]) rfl dX4_isLevel_15
    · refine lv_iconst (v := 1) hx hb dX4_isLevel_10 (by decide) ?_
      refine lv_goto (tgt := 15) hx hb dX4_isLevel_11 (by decide) ?_
      exact k_zret S hr hlk I (by decide) (by unfold isL; rw [if_neg c_1, if_neg c_7]) rfl dX4_isLevel_15
theorem in_X4_note0_X4 : ∀ w ∈ u_ws RX4 TX4 15, w ∈ wsX4_note0 := by decide +kernel
set_option maxHeartbeats 4000000 in
set_option maxRecDepth 100000 in
/-- note0 -/
theorem c_note0 (l : Launch) (D : va_G) (cy : Nat → ClassId) (A : Nat → Prop) (bd : Nat → Nat) (C : rC) (N : rN) (M : mM) (rn out code : Int32) (X : va_W) (hN : N.2 < 100000) (x : Int32) : Met l yX4_note0 wsX4_note0 ({ frames := 0, cells := 0, slots := 0, locals := 0 }) (va_Pc [.ref (bd 0), .int x] (KP D cy A (mdW bd cy C (N, M) rn out code X))) (va_Qv (fun (_ : Unit) => True) (fun _ => KB D cy A (mdW bd cy C (nt N x, M) rn out code X)) A) 0 0 A := by
  refine k_open (own := RX4) (maxL := 2) (ret := none) (by decide) rfl rfl (Nat.le_of_ble_eq_true rfl) (fun p e s m args below meth c S hr hlk I ls hl => ?_)
  obtain ⟨hx, hb, hml, hown, hts⟩ := id S
  have hl : lv_has ls 2 [(0, .ref (bd 0)), (1, .int x)] := hl
  refine lv_aload_n hx hb dX4_note0_0 rfl (lv_at hl 0 rfl) ?_
  refine k_get (T := TX4) (N := 15) (ci := 4) (k := 5) (q0 := 0) (v := .int (nI (N, M).1.2)) S I in_X4_note0_X4 rfl rfl (by decide) (by decide +kernel) rfl dX4_note0_1 ?_
  refine lv_bipush (v := 64) hx hb dX4_note0_4 (by decide) ?_
  refine lv_icmp_ge (tgt := 19) hx hb dX4_note0_6 (by decide) (fun c_6 => ?_) (fun c_6 => ?_)
  · have h64 : ¬ N.2 < 64 := fun h => nI_ge h (by omega) c_6
    have e : nt N x = (N.1, N.2 + 1) := by unfold nt; rw [if_neg h64]
    refine lv_aload_n hx hb dX4_note0_19 rfl (lv_at hl 0 rfl) ?_
    refine lv_dup hx hb dX4_note0_20 rfl ?_
    refine k_get (T := TX4) (N := 15) (ci := 4) (k := 5) (q0 := 0) (v := .int (nI (N, M).1.2)) S I in_X4_note0_X4 rfl rfl (by decide) (by decide +kernel) rfl dX4_note0_21 ?_
    refine lv_iconst (v := 1) hx hb dX4_note0_24 (by decide) ?_
    refine lv_iadd hx hb dX4_note0_25 ?_
    refine W.eq (congrArg (fun z => F0 m 26 ls (.int z :: [.ref (bd 0)])) ((nI_succ N.2).symm)) ?_
    refine k_put (T := TX4) (N := 15) (ci := 4) (k := 5) (q0 := 0) (v := .int (nI (N.2 + 1))) (ty := .int) (fs := [.ref (bd 1), .ref (bd 2), .ref (bd 3), .ref (bd 4), .ref (bd 5), .int (nI (N, M).1.2), .int rn, .ref (bd 6), .ref (bd 7), .ref (bd 8), .int (nI (N, M).2.2.2.2.1), .long (N, M).2.2.2.2.2.1, .int out, .int code, .ref (bd 9)]) (w1 := mdW bd cy C ((N.1, N.2 + 1), M) rn out code X) S I in_X4_note0_X4 tyX4 tyX4_ok nmX4 rfl rfl (by decide) (by decide +kernel) rfl rfl rfl rfl (Nat.le_of_ble_eq_true rfl) rfl dX4_note0_26 (fun H locs I => ?_)
    exact k_vret S hr hlk I (by rw [e]) dX4_note0_29
  · have h64 : N.2 < 64 := Nat.not_le.mp fun h => c_6 (nI_le (b := N.2) h (by omega))
    have e : nt N x = (upd N.1 N.2 x, N.2 + 1) := by unfold nt; rw [if_pos h64]
    refine lv_aload_n hx hb dX4_note0_9 rfl (lv_at hl 0 rfl) ?_
    refine k_get (T := TX4) (N := 15) (ci := 4) (k := 4) (q0 := 0) (v := .ref (bd 5)) S I in_X4_note0_X4 rfl rfl (by decide) (by decide +kernel) rfl dX4_note0_10 ?_
    refine lv_aload_n hx hb dX4_note0_13 rfl (lv_at hl 0 rfl) ?_
    refine k_get (T := TX4) (N := 15) (ci := 4) (k := 5) (q0 := 0) (v := .int (nI (N, M).1.2)) S I in_X4_note0_X4 rfl rfl (by decide) (by decide +kernel) rfl dX4_note0_14 ?_
    refine lv_iload_n hx hb dX4_note0_17 rfl (lv_at hl 1 rfl) ?_
    refine k_iast (q0 := 5) (t0 := 8) (j := (N, M).1.2) (w1 := mdW bd cy C ((upd N.1 N.2 x, N.2), M) rn out code X) S I rfl rfl h64 (by decide) rfl rfl dX4_note0_18 (fun H locs I => ?_)
    refine lv_aload_n hx hb dX4_note0_19 rfl (lv_at hl 0 rfl) ?_
    refine lv_dup hx hb dX4_note0_20 rfl ?_
    refine k_get (T := TX4) (N := 15) (ci := 4) (k := 5) (q0 := 0) (v := .int (nI ((upd N.1 N.2 x, N.2), M).1.2)) S I in_X4_note0_X4 rfl rfl (by decide) (by decide +kernel) rfl dX4_note0_21 ?_
    refine lv_iconst (v := 1) hx hb dX4_note0_24 (by decide) ?_
    refine lv_iadd hx hb dX4_note0_25 ?_
    refine W.eq (congrArg (fun z => F0 m 26 ls (.int z :: [.ref (bd 0)])) ((nI_succ N.2).symm)) ?_
    refine k_put (T := TX4) (N := 15) (ci := 4) (k := 5) (q0 := 0) (v := .int (nI (N.2 + 1))) (ty := .int) (fs := [.ref (bd 1), .ref (bd 2), .ref (bd 3), .ref (bd 4), .ref (bd 5), .int (nI ((upd N.1 N.2 x, N.2), M).1.2), .int rn, .ref (bd 6), .ref (bd 7), .ref (bd 8), .int (nI ((upd N.1 N.2 x, N.2), M).2.2.2.2.1), .long ((upd N.1 N.2 x, N.2), M).2.2.2.2.2.1, .int out, .int code, .ref (bd 9)]) (w1 := mdW bd cy C ((upd N.1 N.2 x, N.2 + 1), M) rn out code X) S I in_X4_note0_X4 tyX4 tyX4_ok nmX4 rfl rfl (by decide) (by decide +kernel) rfl rfl rfl rfl (Nat.le_of_ble_eq_true rfl) rfl dX4_note0_26 (fun H locs I => ?_)
    exact k_vret S hr hlk I (by rw [e]) dX4_note0_29
theorem in_X4_make_X4 : ∀ w ∈ u_ws RX4 TX4 15, w ∈ wsX4_make := by decide +kernel
set_option maxHeartbeats 4000000 in
set_option maxRecDepth 100000 in
/-- make -/
theorem c_make (l : Launch) (D : va_G) (cy : Nat → ClassId) (A : Nat → Prop) (bd : Nat → Nat) (C : rC) (N : rN) (M : mM) (rn out code : Int32) (X : va_W) (hM : M.2.2.2.1 < 4096) (x y z : Int32) : Met l yX4_make wsX4_make ({ frames := 0, cells := 0, slots := 0, locals := 0 }) (va_Pc [.ref (bd 0), .int x, .int y, .int z] (KP D cy A (mdW bd cy C (N, M) rn out code X))) (va_Qi (fun (r : Int32) (_ : Unit) => r = nI M.2.2.2.1) (fun _ => KB D cy A (mdW bd cy C (N, mkM M x y z) rn out code X)) A) 0 0 A := by
  refine k_open (own := RX4) (maxL := 4) (ret := (some .int)) (by decide) rfl rfl (Nat.le_of_ble_eq_true rfl) (fun p e s m args below meth c S hr hlk I ls hl => ?_)
  obtain ⟨hx, hb, hml, hown, hts⟩ := id S
  have hl : lv_has ls 4 [(0, .ref (bd 0)), (1, .int x), (2, .int y), (3, .int z)] := hl
  refine lv_aload_n hx hb dX4_make_0 rfl (lv_at hl 0 rfl) ?_
  refine k_get (T := TX4) (N := 15) (ci := 4) (k := 7) (q0 := 0) (v := .ref (bd 6)) S I in_X4_make_X4 rfl rfl (by decide) (by decide +kernel) rfl dX4_make_1 ?_
  refine lv_aload_n hx hb dX4_make_4 rfl (lv_at hl 0 rfl) ?_
  refine k_get (T := TX4) (N := 15) (ci := 4) (k := 10) (q0 := 0) (v := .int (nI (N, M).2.2.2.2.1)) S I in_X4_make_X4 rfl rfl (by decide) (by decide +kernel) rfl dX4_make_5 ?_
  refine lv_iload_n hx hb dX4_make_8 rfl (lv_at hl 1 rfl) ?_
  refine k_iast (q0 := 6) (t0 := 9) (j := M.2.2.2.1) (w1 := mdW bd cy C (N, (upd M.1 M.2.2.2.1 x, M.2)) rn out code X) S I rfl rfl hM (by decide) rfl rfl dX4_make_9 (fun H locs I => ?_)
  refine lv_aload_n hx hb dX4_make_10 rfl (lv_at hl 0 rfl) ?_
  refine k_get (T := TX4) (N := 15) (ci := 4) (k := 8) (q0 := 0) (v := .ref (bd 7)) S I in_X4_make_X4 rfl rfl (by decide) (by decide +kernel) rfl dX4_make_11 ?_
  refine lv_aload_n hx hb dX4_make_14 rfl (lv_at hl 0 rfl) ?_
  refine k_get (T := TX4) (N := 15) (ci := 4) (k := 10) (q0 := 0) (v := .int (nI (N, (upd M.1 M.2.2.2.1 x, M.2)).2.2.2.2.1)) S I in_X4_make_X4 rfl rfl (by decide) (by decide +kernel) rfl dX4_make_15 ?_
  refine lv_iload_n hx hb dX4_make_18 rfl (lv_at hl 2 rfl) ?_
  refine k_iast (q0 := 7) (t0 := 10) (j := M.2.2.2.1) (w1 := mdW bd cy C (N, (upd M.1 M.2.2.2.1 x, upd M.2.1 M.2.2.2.1 y, M.2.2)) rn out code X) S I rfl rfl hM (by decide) rfl rfl dX4_make_19 (fun H locs I => ?_)
  refine lv_aload_n hx hb dX4_make_20 rfl (lv_at hl 0 rfl) ?_
  refine k_get (T := TX4) (N := 15) (ci := 4) (k := 9) (q0 := 0) (v := .ref (bd 8)) S I in_X4_make_X4 rfl rfl (by decide) (by decide +kernel) rfl dX4_make_21 ?_
  refine lv_aload_n hx hb dX4_make_24 rfl (lv_at hl 0 rfl) ?_
  refine k_get (T := TX4) (N := 15) (ci := 4) (k := 10) (q0 := 0) (v := .int (nI (N, (upd M.1 M.2.2.2.1 x, upd M.2.1 M.2.2.2.1 y, M.2.2)).2.2.2.2.1)) S I in_X4_make_X4 rfl rfl (by decide) (by decide +kernel) rfl dX4_make_25 ?_
  refine lv_iload_n hx hb dX4_make_28 rfl (lv_at hl 3 rfl) ?_
  refine k_iast (q0 := 8) (t0 := 11) (j := M.2.2.2.1) (w1 := mdW bd cy C (N, (upd M.1 M.2.2.2.1 x, upd M.2.1 M.2.2.2.1 y, upd M.2.2.1 M.2.2.2.1 z, M.2.2.2)) rn out code X) S I rfl rfl hM (by decide) rfl rfl dX4_make_29 (fun H locs I => ?_)
  refine lv_aload_n hx hb dX4_make_30 rfl (lv_at hl 0 rfl) ?_
  refine lv_dup hx hb dX4_make_31 rfl ?_
  refine k_get (T := TX4) (N := 15) (ci := 4) (k := 10) (q0 := 0) (v := .int (nI (N, (upd M.1 M.2.2.2.1 x, upd M.2.1 M.2.2.2.1 y, upd M.2.2.1 M.2.2.2.1 z, M.2.2.2)).2.2.2.2.1)) S I in_X4_make_X4 rfl rfl (by decide) (by decide +kernel) rfl dX4_make_32 ?_
  refine lv_iconst (v := 1) hx hb dX4_make_35 (by decide) ?_
  refine lv_iadd hx hb dX4_make_36 ?_
  refine W.eq (congrArg (fun z => F0 m 37 ls (.int z :: [.ref (bd 0)])) ((nI_succ M.2.2.2.1).symm)) ?_
  refine k_put (T := TX4) (N := 15) (ci := 4) (k := 10) (q0 := 0) (v := .int (nI (M.2.2.2.1 + 1))) (ty := .int) (fs := [.ref (bd 1), .ref (bd 2), .ref (bd 3), .ref (bd 4), .ref (bd 5), .int (nI (N, (upd M.1 M.2.2.2.1 x, upd M.2.1 M.2.2.2.1 y, upd M.2.2.1 M.2.2.2.1 z, M.2.2.2)).1.2), .int rn, .ref (bd 6), .ref (bd 7), .ref (bd 8), .int (nI (N, (upd M.1 M.2.2.2.1 x, upd M.2.1 M.2.2.2.1 y, upd M.2.2.1 M.2.2.2.1 z, M.2.2.2)).2.2.2.2.1), .long (N, (upd M.1 M.2.2.2.1 x, upd M.2.1 M.2.2.2.1 y, upd M.2.2.1 M.2.2.2.1 z, M.2.2.2)).2.2.2.2.2.1, .int out, .int code, .ref (bd 9)]) (w1 := mdW bd cy C (N, (upd M.1 M.2.2.2.1 x, upd M.2.1 M.2.2.2.1 y, upd M.2.2.1 M.2.2.2.1 z, M.2.2.2.1 + 1, M.2.2.2.2)) rn out code X) S I in_X4_make_X4 tyX4 tyX4_ok nmX4 rfl rfl (by decide) (by decide +kernel) rfl rfl rfl rfl (Nat.le_of_ble_eq_true rfl) rfl dX4_make_37 (fun H locs I => ?_)
  refine lv_aload_n hx hb dX4_make_40 rfl (lv_at hl 0 rfl) ?_
  refine k_get (T := TX4) (N := 15) (ci := 4) (k := 10) (q0 := 0) (v := .int (nI (N, (upd M.1 M.2.2.2.1 x, upd M.2.1 M.2.2.2.1 y, upd M.2.2.1 M.2.2.2.1 z, M.2.2.2.1 + 1, M.2.2.2.2)).2.2.2.2.1)) S I in_X4_make_X4 rfl rfl (by decide) (by decide +kernel) rfl dX4_make_41 ?_
  refine lv_iconst (v := 1) hx hb dX4_make_44 (by decide) ?_
  refine lv_isub hx hb dX4_make_45 ?_
  refine W.eq (congrArg (fun z => F0 m 46 ls (.int z :: [])) (nI_pred M.2.2.2.1)) ?_
  exact k_iret S hr hlk I rfl rfl dX4_make_46
theorem in_X4_answers_X4 : ∀ w ∈ u_ws RX4 TX4 15, w ∈ wsX4_answers := by decide +kernel
set_option maxHeartbeats 4000000 in
set_option maxRecDepth 100000 in
/-- answers -/
theorem c_answers (l : Launch) (D : va_G) (cy : Nat → ClassId) (A : Nat → Prop) (bd : Nat → Nat) (C : rC) (N : rN) (M : mM) (rn out code : Int32) (X : va_W) (v : Int64) : Met l yX4_answers wsX4_answers ({ frames := 0, cells := 0, slots := 0, locals := 0 }) (va_Pc [.ref (bd 0), .long v] (KP D cy A (mdW bd cy C (N, M) rn out code X))) (va_Qi (fun (r : Int32) (_ : Unit) => r = -1) (fun _ => KB D cy A (mdW bd cy C (N, anM M v) rn out code X)) A) 0 0 A := by
  refine k_open (own := RX4) (maxL := 3) (ret := (some .int)) (by decide) rfl rfl (Nat.le_of_ble_eq_true rfl) (fun p e s m args below meth c S hr hlk I ls hl => ?_)
  obtain ⟨hx, hb, hml, hown, hts⟩ := id S
  have hl : lv_has ls 3 [(0, .ref (bd 0)), (1, .long v)] := hl
  refine lv_aload_n hx hb dX4_answers_0 rfl (lv_at hl 0 rfl) ?_
  refine lv_lload_n hx hb dX4_answers_1 rfl (lv_at hl 1 rfl) ?_
  refine k_put (T := TX4) (N := 15) (ci := 4) (k := 11) (q0 := 0) (v := .long v) (ty := .long) (fs := [.ref (bd 1), .ref (bd 2), .ref (bd 3), .ref (bd 4), .ref (bd 5), .int (nI (N, M).1.2), .int rn, .ref (bd 6), .ref (bd 7), .ref (bd 8), .int (nI (N, M).2.2.2.2.1), .long (N, M).2.2.2.2.2.1, .int out, .int code, .ref (bd 9)]) (w1 := mdW bd cy C (N, anM M v) rn out code X) S I in_X4_answers_X4 tyX4 tyX4_ok nmX4 rfl rfl (by decide) (by decide +kernel) rfl rfl rfl rfl (Nat.le_of_ble_eq_true rfl) rfl dX4_answers_2 (fun H locs I => ?_)
  refine lv_iconst (v := (-1)) hx hb dX4_answers_5 (by decide) ?_
  exact k_iret S hr hlk I rfl rfl dX4_answers_6
set_option maxHeartbeats 4000000 in
set_option maxRecDepth 100000 in
/-- bottom -/
theorem c_bottom (l : Launch) (D : va_G) (cy : Nat → ClassId) (A : Nat → Prop) (bd : Nat → Nat) (C : rC) (N : rN) (M : mM) (rn out code : Int32) (X : va_W) (hN : N.2 < 99990) (hM : M.2.2.2.1 < 4096) (b v : Int32) : Met l yX4_bottom wsX4_bottom ({ frames := 1, cells := 0, slots := 0, locals := 40 }) (va_Pc [.ref (bd 0), .int b, .int v] (KP D cy A (mdW bd cy C (N, M) rn out code X))) (va_Qi (fun (r : Int32) (_ : Unit) => r = (btM b v (N, M)).2) (fun _ => KB D cy A (mdW bd cy C ((btM b v (N, M)).1) rn out code X)) A) 0 0 A := by
  refine k_open (own := RX4) (maxL := 4) (ret := (some .int)) (by decide) rfl rfl (Nat.le_of_ble_eq_true rfl) (fun p e s m args below meth c S hr hlk I ls hl => ?_)
  obtain ⟨hx, hb, hml, hown, hts⟩ := id S
  have hl : lv_has ls 4 [(0, .ref (bd 0)), (1, .int b), (2, .int v)] := hl
  refine lv_iload_n hx hb dX4_bottom_0 rfl (lv_at hl 1 rfl) ?_
  rcases k_sw17 b with c_1 | c_1 | c_1 | c_1 | c_1 | c_1 | c_1 | c_1
  · refine lv_tableOut (tgt := 136) hx hb dX4_bottom_1 c_1 (by decide) ?_
    refine lv_aload_n hx hb dX4_bottom_136 rfl (lv_at hl 0 rfl) ?_
    refine lv_iload_n hx hb dX4_bottom_137 rfl (lv_at hl 2 rfl) ?_
    refine lv_i2l (v := v.toInt64) hx hb dX4_bottom_138 rfl ?_
    refine k_Vi (q0 := 0) (As := [.long v.toInt64]) (rest := []) (w1 := mdW bd cy C (N, anM M v.toInt64) rn out code X) (G := -1) S I (c_answers l D cy A bd C N M rn out code X v.toInt64) (cwV 1 hts gX4_bottom_X4_answers rfl rfl rfl (by decide +kernel) ⟨Nat.le_of_ble_eq_true rfl, Nat.le_of_ble_eq_true rfl⟩) rfl rfl rfl rfl hl.1 rfl (Nat.le_of_ble_eq_true rfl) dX4_bottom_139 ⟨Nat.zero_le _, Nat.zero_le _⟩ (fun H locs I => ?_)
    have e : btM b v (N, M) = ((N, anM M v.toInt64), -1) := by unfold btM; rw [if_neg (k_ne c_1 (by decide)), if_neg (k_ne c_1 (by decide)), if_neg (k_ne c_1 (by decide)), if_neg (k_ne c_1 (by decide)), if_neg (k_ne c_1 (by decide)), if_neg (k_ne c_1 (by decide)), if_neg (k_ne c_1 (by decide))]
    exact k_iret S hr hlk I (by rw [e]) (by rw [e]) dX4_bottom_142
  · refine lv_tableIn (tgt := 44) hx hb dX4_bottom_1 (by rw [c_1]; decide) (by rw [c_1]; decide) (by rw [c_1]; rfl) (by decide) ?_
    refine lv_aload_n hx hb dX4_bottom_44 rfl (lv_at hl 0 rfl) ?_
    refine lv_iconst (v := 1) hx hb dX4_bottom_45 (by decide) ?_
    refine lv_iload_n hx hb dX4_bottom_46 rfl (lv_at hl 2 rfl) ?_
    refine lv_iconst (v := (-1)) hx hb dX4_bottom_47 (by decide) ?_
    refine k_Vi (q0 := 0) (As := [.int 1, .int v, .int (-1)]) (rest := []) (w1 := mdW bd cy C (N, mkM M 1 v (-1)) rn out code X) (G := nI M.2.2.2.1) S I (c_make l D cy A bd C N M rn out code X hM 1 v (-1)) (cwV 3 hts gX4_bottom_X4_make rfl rfl rfl (by decide +kernel) ⟨Nat.le_of_ble_eq_true rfl, Nat.le_of_ble_eq_true rfl⟩) rfl rfl rfl rfl hl.1 rfl (Nat.le_of_ble_eq_true rfl) dX4_bottom_48 ⟨Nat.zero_le _, Nat.zero_le _⟩ (fun H locs I => ?_)
    have e : btM b v (N, M) = ((N, mkM M 1 v (-1)), nI M.2.2.2.1) := by subst c_1; unfold btM; rw [if_pos rfl]
    exact k_iret S hr hlk I (by rw [e]) (by rw [e]) dX4_bottom_51
  · refine lv_tableIn (tgt := 52) hx hb dX4_bottom_1 (by rw [c_1]; decide) (by rw [c_1]; decide) (by rw [c_1]; rfl) (by decide) ?_
    refine lv_aload_n hx hb dX4_bottom_52 rfl (lv_at hl 0 rfl) ?_
    refine lv_iconst (v := 2) hx hb dX4_bottom_53 (by decide) ?_
    refine lv_iload_n hx hb dX4_bottom_54 rfl (lv_at hl 2 rfl) ?_
    refine lv_iconst (v := (-1)) hx hb dX4_bottom_55 (by decide) ?_
    refine k_Vi (q0 := 0) (As := [.int 2, .int v, .int (-1)]) (rest := []) (w1 := mdW bd cy C (N, mkM M 2 v (-1)) rn out code X) (G := nI M.2.2.2.1) S I (c_make l D cy A bd C N M rn out code X hM 2 v (-1)) (cwV 3 hts gX4_bottom_X4_make rfl rfl rfl (by decide +kernel) ⟨Nat.le_of_ble_eq_true rfl, Nat.le_of_ble_eq_true rfl⟩) rfl rfl rfl rfl hl.1 rfl (Nat.le_of_ble_eq_true rfl) dX4_bottom_56 ⟨Nat.zero_le _, Nat.zero_le _⟩ (fun H locs I => ?_)
    have e : btM b v (N, M) = ((N, mkM M 2 v (-1)), nI M.2.2.2.1) := by subst c_1; unfold btM; rw [if_neg (by decide), if_pos rfl]
    exact k_iret S hr hlk I (by rw [e]) (by rw [e]) dX4_bottom_59
  · refine lv_tableIn (tgt := 60) hx hb dX4_bottom_1 (by rw [c_1]; decide) (by rw [c_1]; decide) (by rw [c_1]; rfl) (by decide) ?_
    refine lv_aload_n hx hb dX4_bottom_60 rfl (lv_at hl 0 rfl) ?_
    refine lv_iconst (v := 3) hx hb dX4_bottom_61 (by decide) ?_
    refine lv_iconst (v := 0) hx hb dX4_bottom_62 (by decide) ?_
    refine lv_iconst (v := (-1)) hx hb dX4_bottom_63 (by decide) ?_
    refine k_Vi (q0 := 0) (As := [.int 3, .int 0, .int (-1)]) (rest := []) (w1 := mdW bd cy C (N, mkM M 3 0 (-1)) rn out code X) (G := nI M.2.2.2.1) S I (c_make l D cy A bd C N M rn out code X hM 3 0 (-1)) (cwV 3 hts gX4_bottom_X4_make rfl rfl rfl (by decide +kernel) ⟨Nat.le_of_ble_eq_true rfl, Nat.le_of_ble_eq_true rfl⟩) rfl rfl rfl rfl hl.1 rfl (Nat.le_of_ble_eq_true rfl) dX4_bottom_64 ⟨Nat.zero_le _, Nat.zero_le _⟩ (fun H locs I => ?_)
    have e : btM b v (N, M) = ((N, mkM M 3 0 (-1)), nI M.2.2.2.1) := by subst c_1; unfold btM; rw [if_neg (by decide), if_neg (by decide), if_pos rfl]
    exact k_iret S hr hlk I (by rw [e]) (by rw [e]) dX4_bottom_67
  · refine lv_tableIn (tgt := 68) hx hb dX4_bottom_1 (by rw [c_1]; decide) (by rw [c_1]; decide) (by rw [c_1]; rfl) (by decide) ?_
    refine lv_aload_n hx hb dX4_bottom_68 rfl (lv_at hl 0 rfl) ?_
    refine lv_iconst (v := 4) hx hb dX4_bottom_69 (by decide) ?_
    refine lv_iconst (v := 0) hx hb dX4_bottom_70 (by decide) ?_
    refine lv_iconst (v := (-1)) hx hb dX4_bottom_71 (by decide) ?_
    refine k_Vi (q0 := 0) (As := [.int 4, .int 0, .int (-1)]) (rest := []) (w1 := mdW bd cy C (N, mkM M 4 0 (-1)) rn out code X) (G := nI M.2.2.2.1) S I (c_make l D cy A bd C N M rn out code X hM 4 0 (-1)) (cwV 3 hts gX4_bottom_X4_make rfl rfl rfl (by decide +kernel) ⟨Nat.le_of_ble_eq_true rfl, Nat.le_of_ble_eq_true rfl⟩) rfl rfl rfl rfl hl.1 rfl (Nat.le_of_ble_eq_true rfl) dX4_bottom_72 ⟨Nat.zero_le _, Nat.zero_le _⟩ (fun H locs I => ?_)
    have e : btM b v (N, M) = ((N, mkM M 4 0 (-1)), nI M.2.2.2.1) := by subst c_1; unfold btM; rw [if_neg (by decide), if_neg (by decide), if_neg (by decide), if_pos rfl]
    exact k_iret S hr hlk I (by rw [e]) (by rw [e]) dX4_bottom_75
  · refine lv_tableIn (tgt := 68) hx hb dX4_bottom_1 (by rw [c_1]; decide) (by rw [c_1]; decide) (by rw [c_1]; rfl) (by decide) ?_
    refine lv_aload_n hx hb dX4_bottom_68 rfl (lv_at hl 0 rfl) ?_
    refine lv_iconst (v := 4) hx hb dX4_bottom_69 (by decide) ?_
    refine lv_iconst (v := 0) hx hb dX4_bottom_70 (by decide) ?_
    refine lv_iconst (v := (-1)) hx hb dX4_bottom_71 (by decide) ?_
    refine k_Vi (q0 := 0) (As := [.int 4, .int 0, .int (-1)]) (rest := []) (w1 := mdW bd cy C (N, mkM M 4 0 (-1)) rn out code X) (G := nI M.2.2.2.1) S I (c_make l D cy A bd C N M rn out code X hM 4 0 (-1)) (cwV 3 hts gX4_bottom_X4_make rfl rfl rfl (by decide +kernel) ⟨Nat.le_of_ble_eq_true rfl, Nat.le_of_ble_eq_true rfl⟩) rfl rfl rfl rfl hl.1 rfl (Nat.le_of_ble_eq_true rfl) dX4_bottom_72 ⟨Nat.zero_le _, Nat.zero_le _⟩ (fun H locs I => ?_)
    have e : btM b v (N, M) = ((N, mkM M 4 0 (-1)), nI M.2.2.2.1) := by subst c_1; unfold btM; rw [if_neg (by decide), if_neg (by decide), if_neg (by decide), if_neg (by decide), if_pos rfl]
    exact k_iret S hr hlk I (by rw [e]) (by rw [e]) dX4_bottom_75
  · refine lv_tableIn (tgt := 76) hx hb dX4_bottom_1 (by rw [c_1]; decide) (by rw [c_1]; decide) (by rw [c_1]; rfl) (by decide) ?_
    refine lv_iload_n hx hb dX4_bottom_76 rfl (lv_at hl 2 rfl) ?_
    refine lv_if_lt (tgt := 95) hx hb dX4_bottom_77 (by decide) (fun c_77 => ?_) (fun c_77 => ?_)
    · refine lv_aload_n hx hb dX4_bottom_95 rfl (lv_at hl 0 rfl) ?_
      refine lv_iconst (v := 5) hx hb dX4_bottom_96 (by decide) ?_
      refine lv_iconst (v := 0) hx hb dX4_bottom_97 (by decide) ?_
      refine lv_iconst (v := (-1)) hx hb dX4_bottom_98 (by decide) ?_
      refine k_Vi (q0 := 0) (As := [.int 5, .int 0, .int (-1)]) (rest := []) (w1 := mdW bd cy C (N, mkM M 5 0 (-1)) rn out code X) (G := nI M.2.2.2.1) S I (c_make l D cy A bd C N M rn out code X hM 5 0 (-1)) (cwV 3 hts gX4_bottom_X4_make rfl rfl rfl (by decide +kernel) ⟨Nat.le_of_ble_eq_true rfl, Nat.le_of_ble_eq_true rfl⟩) rfl rfl rfl rfl hl.1 rfl (Nat.le_of_ble_eq_true rfl) dX4_bottom_99 ⟨Nat.zero_le _, Nat.zero_le _⟩ (fun H locs I => ?_)
      have e : btM b v (N, M) = ((N, mkM M 5 0 (-1)), nI M.2.2.2.1) := by subst c_1; unfold btM; rw [if_neg (by decide), if_neg (by decide), if_neg (by decide), if_neg (by decide), if_neg (by decide), if_pos rfl]; rw [if_pos c_77]
      exact k_iret S hr hlk I (by rw [e]) (by rw [e]) dX4_bottom_102
    · refine lv_iload_n hx hb dX4_bottom_80 rfl (lv_at hl 2 rfl) ?_
      refine lv_iconst (v := 3) hx hb dX4_bottom_81 (by decide) ?_
      refine lv_icmp_ge (tgt := 95) hx hb dX4_bottom_82 (by decide) (fun c_82 => ?_) (fun c_82 => ?_)
      · refine lv_aload_n hx hb dX4_bottom_95 rfl (lv_at hl 0 rfl) ?_
        refine lv_iconst (v := 5) hx hb dX4_bottom_96 (by decide) ?_
        refine lv_iconst (v := 0) hx hb dX4_bottom_97 (by decide) ?_
        refine lv_iconst (v := (-1)) hx hb dX4_bottom_98 (by decide) ?_
        refine k_Vi (q0 := 0) (As := [.int 5, .int 0, .int (-1)]) (rest := []) (w1 := mdW bd cy C (N, mkM M 5 0 (-1)) rn out code X) (G := nI M.2.2.2.1) S I (c_make l D cy A bd C N M rn out code X hM 5 0 (-1)) (cwV 3 hts gX4_bottom_X4_make rfl rfl rfl (by decide +kernel) ⟨Nat.le_of_ble_eq_true rfl, Nat.le_of_ble_eq_true rfl⟩) rfl rfl rfl rfl hl.1 rfl (Nat.le_of_ble_eq_true rfl) dX4_bottom_99 ⟨Nat.zero_le _, Nat.zero_le _⟩ (fun H locs I => ?_)
        have e : btM b v (N, M) = ((N, mkM M 5 0 (-1)), nI M.2.2.2.1) := by subst c_1; unfold btM; rw [if_neg (by decide), if_neg (by decide), if_neg (by decide), if_neg (by decide), if_neg (by decide), if_pos rfl]; rw [if_neg c_77, if_pos c_82]
        exact k_iret S hr hlk I (by rw [e]) (by rw [e]) dX4_bottom_102
      · refine lv_aload_n hx hb dX4_bottom_85 rfl (lv_at hl 0 rfl) ?_
        refine lv_ldc2 (v := 7) hx hb hown (hts _ (by decide +kernel)) dX4_bottom_86 ?_
        refine k_Vi (q0 := 0) (As := [.long 7]) (rest := []) (w1 := mdW bd cy C (N, anM M 7) rn out code X) (G := -1) S I (c_answers l D cy A bd C N M rn out code X 7) (cwV 1 hts gX4_bottom_X4_answers rfl rfl rfl (by decide +kernel) ⟨Nat.le_of_ble_eq_true rfl, Nat.le_of_ble_eq_true rfl⟩) rfl rfl rfl rfl hl.1 rfl (Nat.le_of_ble_eq_true rfl) dX4_bottom_89 ⟨Nat.zero_le _, Nat.zero_le _⟩ (fun H locs I => ?_)
        refine lv_goto (tgt := 102) hx hb dX4_bottom_92 (by decide) ?_
        have e : btM b v (N, M) = ((N, anM M 7), -1) := by subst c_1; unfold btM; rw [if_neg (by decide), if_neg (by decide), if_neg (by decide), if_neg (by decide), if_neg (by decide), if_pos rfl]; rw [if_neg c_77, if_neg c_82]
        exact k_iret S hr hlk I (by rw [e]) (by rw [e]) dX4_bottom_102
  · refine lv_tableIn (tgt := 103) hx hb dX4_bottom_1 (by rw [c_1]; decide) (by rw [c_1]; decide) (by rw [c_1]; rfl) (by decide) ?_
    refine lv_iconst (v := 0) hx hb dX4_bottom_103 (by decide) ?_
    refine lv_istore_n (lv' := [(3, .int 0), (0, .ref (bd 0)), (1, .int b), (2, .int v)]) hx hb dX4_bottom_104 rfl hl (by decide) rfl (fun ls hl => ?_)
    refine lv_iload_n hx hb dX4_bottom_105 rfl (lv_at hl 0 rfl) ?_
    refine lv_iconst (v := 3) hx hb dX4_bottom_106 (by decide) ?_
    refine lv_icmp_ge (tgt := 128) hx hb dX4_bottom_107 (by decide) (fun c_107 => ?_) (fun c_107 => ?_)
    · exact absurd c_107 (by decide)
    · refine lv_aload_n hx hb dX4_bottom_110 rfl (lv_at hl 1 rfl) ?_
      refine lv_sipush (v := 700) hx hb dX4_bottom_111 (by decide) ?_
      refine lv_iload_n hx hb dX4_bottom_114 rfl (lv_at hl 3 rfl) ?_
      refine lv_bipush (v := 100) hx hb dX4_bottom_115 (by decide) ?_
      refine lv_irem hx hb dX4_bottom_117 (by decide) ?_
      refine lv_iadd hx hb dX4_bottom_118 ?_
      refine k_Vv (q0 := 0) (As := [.int (700 + (v - v / 100 * 100))]) (rest := []) (w1 := mdW bd cy C (nt N (dpN v), M) rn out code X) S I (c_note0 l D cy A bd C N M rn out code X (by omega) (dpN v)) (cwV 1 hts gX4_bottom_X4_note0 rfl rfl rfl (by decide +kernel) ⟨Nat.le_of_ble_eq_true rfl, Nat.le_of_ble_eq_true rfl⟩) rfl rfl rfl rfl hl.1 rfl (Nat.le_of_ble_eq_true rfl) dX4_bottom_119 ⟨Nat.zero_le _, Nat.zero_le _⟩ (fun H locs I => ?_)
      refine lv_iinc (v := (1)) (lv' := [(3, .int (1)), (0, .ref (bd 0)), (1, .int b), (2, .int v)]) hx hb dX4_bottom_122 hl (k := 0) rfl (by decide) (by decide) rfl (fun ls hl => ?_)
      refine lv_goto (tgt := 105) hx hb dX4_bottom_125 (by decide) ?_
      refine lv_iload_n hx hb dX4_bottom_105 rfl (lv_at hl 0 rfl) ?_
      refine lv_iconst (v := 3) hx hb dX4_bottom_106 (by decide) ?_
      refine lv_icmp_ge (tgt := 128) hx hb dX4_bottom_107 (by decide) (fun c_107 => ?_) (fun c_107 => ?_)
      · exact absurd c_107 (by decide)
      · refine lv_aload_n hx hb dX4_bottom_110 rfl (lv_at hl 1 rfl) ?_
        refine lv_sipush (v := 700) hx hb dX4_bottom_111 (by decide) ?_
        refine lv_iload_n hx hb dX4_bottom_114 rfl (lv_at hl 3 rfl) ?_
        refine lv_bipush (v := 100) hx hb dX4_bottom_115 (by decide) ?_
        refine lv_irem hx hb dX4_bottom_117 (by decide) ?_
        refine lv_iadd hx hb dX4_bottom_118 ?_
        refine k_Vv (q0 := 0) (As := [.int (700 + (v - v / 100 * 100))]) (rest := []) (w1 := mdW bd cy C (nt (nt N (dpN v)) (dpN v), M) rn out code X) S I (c_note0 l D cy A bd C (nt N (dpN v)) M rn out code X (by rw [nt_2]; omega) (dpN v)) (cwV 1 hts gX4_bottom_X4_note0 rfl rfl rfl (by decide +kernel) ⟨Nat.le_of_ble_eq_true rfl, Nat.le_of_ble_eq_true rfl⟩) rfl rfl rfl rfl hl.1 rfl (Nat.le_of_ble_eq_true rfl) dX4_bottom_119 ⟨Nat.zero_le _, Nat.zero_le _⟩ (fun H locs I => ?_)
        refine lv_iinc (v := (2)) (lv' := [(3, .int (2)), (0, .ref (bd 0)), (1, .int b), (2, .int v)]) hx hb dX4_bottom_122 hl (k := 0) rfl (by decide) (by decide) rfl (fun ls hl => ?_)
        refine lv_goto (tgt := 105) hx hb dX4_bottom_125 (by decide) ?_
        refine lv_iload_n hx hb dX4_bottom_105 rfl (lv_at hl 0 rfl) ?_
        refine lv_iconst (v := 3) hx hb dX4_bottom_106 (by decide) ?_
        refine lv_icmp_ge (tgt := 128) hx hb dX4_bottom_107 (by decide) (fun c_107 => ?_) (fun c_107 => ?_)
        · exact absurd c_107 (by decide)
        · refine lv_aload_n hx hb dX4_bottom_110 rfl (lv_at hl 1 rfl) ?_
          refine lv_sipush (v := 700) hx hb dX4_bottom_111 (by decide) ?_
          refine lv_iload_n hx hb dX4_bottom_114 rfl (lv_at hl 3 rfl) ?_
          refine lv_bipush (v := 100) hx hb dX4_bottom_115 (by decide) ?_
          refine lv_irem hx hb dX4_bottom_117 (by decide) ?_
          refine lv_iadd hx hb dX4_bottom_118 ?_
          refine k_Vv (q0 := 0) (As := [.int (700 + (v - v / 100 * 100))]) (rest := []) (w1 := mdW bd cy C (nt (nt (nt N (dpN v)) (dpN v)) (dpN v), M) rn out code X) S I (c_note0 l D cy A bd C (nt (nt N (dpN v)) (dpN v)) M rn out code X (by rw [nt_2, nt_2]; omega) (dpN v)) (cwV 1 hts gX4_bottom_X4_note0 rfl rfl rfl (by decide +kernel) ⟨Nat.le_of_ble_eq_true rfl, Nat.le_of_ble_eq_true rfl⟩) rfl rfl rfl rfl hl.1 rfl (Nat.le_of_ble_eq_true rfl) dX4_bottom_119 ⟨Nat.zero_le _, Nat.zero_le _⟩ (fun H locs I => ?_)
          refine lv_iinc (v := (3)) (lv' := [(3, .int (3)), (0, .ref (bd 0)), (1, .int b), (2, .int v)]) hx hb dX4_bottom_122 hl (k := 0) rfl (by decide) (by decide) rfl (fun ls hl => ?_)
          refine lv_goto (tgt := 105) hx hb dX4_bottom_125 (by decide) ?_
          refine lv_iload_n hx hb dX4_bottom_105 rfl (lv_at hl 0 rfl) ?_
          refine lv_iconst (v := 3) hx hb dX4_bottom_106 (by decide) ?_
          refine lv_icmp_ge (tgt := 128) hx hb dX4_bottom_107 (by decide) (fun c_107 => ?_) (fun c_107 => ?_)
          · refine lv_aload_n hx hb dX4_bottom_128 rfl (lv_at hl 1 rfl) ?_
            refine lv_iconst (v := 1) hx hb dX4_bottom_129 (by decide) ?_
            refine lv_iload_n hx hb dX4_bottom_130 rfl (lv_at hl 3 rfl) ?_
            refine lv_iconst (v := (-1)) hx hb dX4_bottom_131 (by decide) ?_
            refine k_Vi (q0 := 0) (As := [.int 1, .int v, .int (-1)]) (rest := []) (w1 := mdW bd cy C (nt (nt (nt N (dpN v)) (dpN v)) (dpN v), mkM M 1 v (-1)) rn out code X) (G := nI M.2.2.2.1) S I (c_make l D cy A bd C (nt (nt (nt N (dpN v)) (dpN v)) (dpN v)) M rn out code X hM 1 v (-1)) (cwV 3 hts gX4_bottom_X4_make rfl rfl rfl (by decide +kernel) ⟨Nat.le_of_ble_eq_true rfl, Nat.le_of_ble_eq_true rfl⟩) rfl rfl rfl rfl hl.1 rfl (Nat.le_of_ble_eq_true rfl) dX4_bottom_132 ⟨Nat.zero_le _, Nat.zero_le _⟩ (fun H locs I => ?_)
            have e : btM b v (N, M) = ((nt (nt (nt N (dpN v)) (dpN v)) (dpN v), mkM M 1 v (-1)), nI M.2.2.2.1) := by subst c_1; unfold btM; rw [if_neg (by decide), if_neg (by decide), if_neg (by decide), if_neg (by decide), if_neg (by decide), if_neg (by decide), if_pos rfl]
            exact k_iret S hr hlk I (by rw [e]) (by rw [e]) dX4_bottom_135
          · exact absurd (by decide) c_107
theorem in_X4_handle_X4 : ∀ w ∈ u_ws RX4 TX4 15, w ∈ wsX4_handle := by decide +kernel
set_option maxHeartbeats 4000000 in
set_option maxRecDepth 100000 in
/-- handle -/
theorem c_handle (l : Launch) (D : va_G) (cy : Nat → ClassId) (A : Nat → Prop) (bd : Nat → Nat) (C : rC) (N : rN) (M : mM) (rn out code : Int32) (X : va_W) (hN : N.2 < 99990) (hM : M.2.2.2.1 < 4096) (k : Nat) (hk : k < 6) (j : Nat) (hj : j < 4096) : Met l yX4_handle wsX4_handle ({ frames := 1, cells := 0, slots := 0, locals := 40 }) (va_Pc [.ref (bd 0), .int (nI k), .int (nI j)] (KP D cy A (mdW bd cy C (N, M) rn out code X))) (va_Qi (fun (r : Int32) (_ : Unit) => r = (hdM C k j (N, M)).2) (fun _ => KB D cy A (mdW bd cy C ((hdM C k j (N, M)).1) rn out code X)) A) 0 0 A := by
  refine k_open (own := RX4) (maxL := 4) (ret := (some .int)) (by decide) rfl rfl (Nat.le_of_ble_eq_true rfl) (fun p e s m args below meth c S hr hlk I ls hl => ?_)
  obtain ⟨hx, hb, hml, hown, hts⟩ := id S
  have hl : lv_has ls 4 [(0, .ref (bd 0)), (1, .int (nI k)), (2, .int (nI j))] := hl
  refine lv_aload_n hx hb dX4_handle_0 rfl (lv_at hl 0 rfl) ?_
  refine k_get (T := TX4) (N := 15) (ci := 4) (k := 7) (q0 := 0) (v := .ref (bd 6)) S I in_X4_handle_X4 rfl rfl (by decide) (by decide +kernel) rfl dX4_handle_1 ?_
  refine lv_iload_n hx hb dX4_handle_4 rfl (lv_at hl 2 rfl) ?_
  refine k_iald (q0 := 6) (t0 := 9) (j := j) (x := M.1 j) S I rfl rfl hj (by decide) rfl rfl dX4_handle_5 ?_
  refine lv_istore_n (lv' := [(3, .int (M.1 j)), (0, .ref (bd 0)), (1, .int (nI k)), (2, .int (nI j))]) hx hb dX4_handle_6 rfl hl (by decide) rfl (fun ls hl => ?_)
  refine lv_aload_n hx hb dX4_handle_7 rfl (lv_at hl 1 rfl) ?_
  refine k_get (T := TX4) (N := 15) (ci := 4) (k := 0) (q0 := 0) (v := .ref (bd 1)) S I in_X4_handle_X4 rfl rfl (by decide) (by decide +kernel) rfl dX4_handle_8 ?_
  refine lv_iload_n hx hb dX4_handle_11 rfl (lv_at hl 2 rfl) ?_
  refine k_iald (q0 := 1) (t0 := 4) (j := k) (x := C.1 k) S I rfl rfl hk (by decide) rfl rfl dX4_handle_12 ?_
  refine lv_iload_n hx hb dX4_handle_13 rfl (lv_at hl 0 rfl) ?_
  refine lv_iconst (v := 1) hx hb dX4_handle_14 (by decide) ?_
  refine lv_isub hx hb dX4_handle_15 ?_
  refine lv_ishr hx hb dX4_handle_16 ?_
  refine lv_iconst (v := 1) hx hb dX4_handle_17 (by decide) ?_
  refine lv_iand hx hb dX4_handle_18 ?_
  refine lv_if_ne (tgt := 24) hx hb dX4_handle_19 (by decide) (fun c_19 => ?_) (fun c_19 => ?_)
  · refine lv_aload_n hx hb dX4_handle_24 rfl (lv_at hl 1 rfl) ?_
    refine lv_bipush (v := 100) hx hb dX4_handle_25 (by decide) ?_
    refine lv_iload_n hx hb dX4_handle_27 rfl (lv_at hl 0 rfl) ?_
    refine lv_imul hx hb dX4_handle_28 ?_
    refine lv_iload_n hx hb dX4_handle_29 rfl (lv_at hl 2 rfl) ?_
    refine lv_iadd hx hb dX4_handle_30 ?_
    refine k_Vv (q0 := 0) (As := [.int ((100 * (M.1 j)) + (nI k))]) (rest := []) (w1 := mdW bd cy C (nt N (100 * M.1 j + nI k), M) rn out code X) S I (c_note0 l D cy A bd C N M rn out code X (by omega) (100 * M.1 j + nI k)) (cwV 1 hts gX4_handle_X4_note0 rfl rfl rfl (by decide +kernel) ⟨Nat.le_of_ble_eq_true rfl, Nat.le_of_ble_eq_true rfl⟩) rfl rfl rfl rfl hl.1 rfl (Nat.le_of_ble_eq_true rfl) dX4_handle_31 ⟨Nat.zero_le _, Nat.zero_le _⟩ (fun H locs I => ?_)
    refine lv_aload_n hx hb dX4_handle_34 rfl (lv_at hl 1 rfl) ?_
    refine k_get (T := TX4) (N := 15) (ci := 4) (k := 1) (q0 := 0) (v := .ref (bd 2)) S I in_X4_handle_X4 rfl rfl (by decide) (by decide +kernel) rfl dX4_handle_35 ?_
    refine lv_iload_n hx hb dX4_handle_38 rfl (lv_at hl 2 rfl) ?_
    refine k_iald (q0 := 2) (t0 := 5) (j := k) (x := C.2.1 k) S I rfl rfl hk (by decide) rfl rfl dX4_handle_39 ?_
    rcases k_sw04 (C.2.1 k) with c_40 | c_40 | c_40 | c_40 | c_40 | c_40
    · refine lv_tableOut (tgt := 124) hx hb dX4_handle_40 c_40 (by decide) ?_
      refine lv_bipush (v := (-2)) hx hb dX4_handle_124 (by decide) ?_
      have e : hdM C k j (N, M) = ((nt N (100 * M.1 j + nI k), M), -2) := by unfold hdM; rw [if_neg c_19]; dsimp only; rw [if_neg (k_ne c_40 (by decide)), if_neg (k_ne c_40 (by decide)), if_neg (k_ne c_40 (by decide)), if_neg (k_ne c_40 (by decide)), if_neg (k_ne c_40 (by decide))]
      exact k_iret S hr hlk I (by rw [e]) (by rw [e]) dX4_handle_126
    · refine lv_tableIn (tgt := 76) hx hb dX4_handle_40 (by rw [c_40]; decide) (by rw [c_40]; decide) (by rw [c_40]; rfl) (by decide) ?_
      refine lv_aload_n hx hb dX4_handle_76 rfl (lv_at hl 1 rfl) ?_
      refine lv_aload_n hx hb dX4_handle_77 rfl (lv_at hl 1 rfl) ?_
      refine k_get (T := TX4) (N := 15) (ci := 4) (k := 3) (q0 := 0) (v := .ref (bd 4)) S I in_X4_handle_X4 rfl rfl (by decide) (by decide +kernel) rfl dX4_handle_78 ?_
      refine lv_iload_n hx hb dX4_handle_81 rfl (lv_at hl 2 rfl) ?_
      refine k_iald (q0 := 4) (t0 := 7) (j := k) (x := C.2.2.2 k) S I rfl rfl hk (by decide) rfl rfl dX4_handle_82 ?_
      refine lv_i2l (v := (C.2.2.2 k).toInt64) hx hb dX4_handle_83 rfl ?_
      refine k_Vi (q0 := 0) (As := [.long (C.2.2.2 k).toInt64]) (rest := []) (w1 := mdW bd cy C (nt N (100 * M.1 j + nI k), anM M ((C.2.2.2 k).toInt64)) rn out code X) (G := -1) S I (c_answers l D cy A bd C (nt N (100 * M.1 j + nI k)) M rn out code X ((C.2.2.2 k).toInt64)) (cwV 1 hts gX4_handle_X4_answers rfl rfl rfl (by decide +kernel) ⟨Nat.le_of_ble_eq_true rfl, Nat.le_of_ble_eq_true rfl⟩) rfl rfl rfl rfl hl.1 rfl (Nat.le_of_ble_eq_true rfl) dX4_handle_84 ⟨Nat.zero_le _, Nat.zero_le _⟩ (fun H locs I => ?_)
      have e : hdM C k j (N, M) = ((nt N (100 * M.1 j + nI k), anM M (C.2.2.2 k).toInt64), -1) := by unfold hdM; rw [if_neg c_19]; dsimp only; rw [if_pos c_40]
      exact k_iret S hr hlk I (by rw [e]) (by rw [e]) dX4_handle_87
    · refine lv_tableIn (tgt := 88) hx hb dX4_handle_40 (by rw [c_40]; decide) (by rw [c_40]; decide) (by rw [c_40]; rfl) (by decide) ?_
      refine lv_iload_n hx hb dX4_handle_88 rfl (lv_at hl 3 rfl) ?_
      have e : hdM C k j (N, M) = ((nt N (100 * M.1 j + nI k), M), nI j) := by unfold hdM; rw [if_neg c_19]; dsimp only; rw [if_neg (by rw [c_40]; decide), if_pos c_40]
      exact k_iret S hr hlk I (by rw [e]) (by rw [e]) dX4_handle_89
    · refine lv_tableIn (tgt := 90) hx hb dX4_handle_40 (by rw [c_40]; decide) (by rw [c_40]; decide) (by rw [c_40]; rfl) (by decide) ?_
      refine lv_aload_n hx hb dX4_handle_90 rfl (lv_at hl 1 rfl) ?_
      refine lv_iconst (v := 1) hx hb dX4_handle_91 (by decide) ?_
      refine lv_aload_n hx hb dX4_handle_92 rfl (lv_at hl 1 rfl) ?_
      refine k_get (T := TX4) (N := 15) (ci := 4) (k := 3) (q0 := 0) (v := .ref (bd 4)) S I in_X4_handle_X4 rfl rfl (by decide) (by decide +kernel) rfl dX4_handle_93 ?_
      refine lv_iload_n hx hb dX4_handle_96 rfl (lv_at hl 2 rfl) ?_
      refine k_iald (q0 := 4) (t0 := 7) (j := k) (x := C.2.2.2 k) S I rfl rfl hk (by decide) rfl rfl dX4_handle_97 ?_
      refine lv_iload_n hx hb dX4_handle_98 rfl (lv_at hl 3 rfl) ?_
      refine k_Vi (q0 := 0) (As := [.int 1, .int (C.2.2.2 k), .int (nI j)]) (rest := []) (w1 := mdW bd cy C (nt N (100 * M.1 j + nI k), mkM M 1 (C.2.2.2 k) (nI j)) rn out code X) (G := nI M.2.2.2.1) S I (c_make l D cy A bd C (nt N (100 * M.1 j + nI k)) M rn out code X hM 1 (C.2.2.2 k) (nI j)) (cwV 3 hts gX4_handle_X4_make rfl rfl rfl (by decide +kernel) ⟨Nat.le_of_ble_eq_true rfl, Nat.le_of_ble_eq_true rfl⟩) rfl rfl rfl rfl hl.1 rfl (Nat.le_of_ble_eq_true rfl) dX4_handle_99 ⟨Nat.zero_le _, Nat.zero_le _⟩ (fun H locs I => ?_)
      have e : hdM C k j (N, M) = ((nt N (100 * M.1 j + nI k), mkM M 1 (C.2.2.2 k) (nI j)), nI M.2.2.2.1) := by unfold hdM; rw [if_neg c_19]; dsimp only; rw [if_neg (by rw [c_40]; decide), if_neg (by rw [c_40]; decide), if_pos c_40]
      exact k_iret S hr hlk I (by rw [e]) (by rw [e]) dX4_handle_102
    · refine lv_tableIn (tgt := 103) hx hb dX4_handle_40 (by rw [c_40]; decide) (by rw [c_40]; decide) (by rw [c_40]; rfl) (by decide) ?_
      refine lv_aload_n hx hb dX4_handle_103 rfl (lv_at hl 1 rfl) ?_
      refine lv_iconst (v := 2) hx hb dX4_handle_104 (by decide) ?_
      refine lv_aload_n hx hb dX4_handle_105 rfl (lv_at hl 1 rfl) ?_
      refine k_get (T := TX4) (N := 15) (ci := 4) (k := 3) (q0 := 0) (v := .ref (bd 4)) S I in_X4_handle_X4 rfl rfl (by decide) (by decide +kernel) rfl dX4_handle_106 ?_
      refine lv_iload_n hx hb dX4_handle_109 rfl (lv_at hl 2 rfl) ?_
      refine k_iald (q0 := 4) (t0 := 7) (j := k) (x := C.2.2.2 k) S I rfl rfl hk (by decide) rfl rfl dX4_handle_110 ?_
      refine lv_iload_n hx hb dX4_handle_111 rfl (lv_at hl 3 rfl) ?_
      refine k_Vi (q0 := 0) (As := [.int 2, .int (C.2.2.2 k), .int (nI j)]) (rest := []) (w1 := mdW bd cy C (nt N (100 * M.1 j + nI k), mkM M 2 (C.2.2.2 k) (nI j)) rn out code X) (G := nI M.2.2.2.1) S I (c_make l D cy A bd C (nt N (100 * M.1 j + nI k)) M rn out code X hM 2 (C.2.2.2 k) (nI j)) (cwV 3 hts gX4_handle_X4_make rfl rfl rfl (by decide +kernel) ⟨Nat.le_of_ble_eq_true rfl, Nat.le_of_ble_eq_true rfl⟩) rfl rfl rfl rfl hl.1 rfl (Nat.le_of_ble_eq_true rfl) dX4_handle_112 ⟨Nat.zero_le _, Nat.zero_le _⟩ (fun H locs I => ?_)
      have e : hdM C k j (N, M) = ((nt N (100 * M.1 j + nI k), mkM M 2 (C.2.2.2 k) (nI j)), nI M.2.2.2.1) := by unfold hdM; rw [if_neg c_19]; dsimp only; rw [if_neg (by rw [c_40]; decide), if_neg (by rw [c_40]; decide), if_neg (by rw [c_40]; decide), if_pos c_40]
      exact k_iret S hr hlk I (by rw [e]) (by rw [e]) dX4_handle_115
    · refine lv_tableIn (tgt := 116) hx hb dX4_handle_40 (by rw [c_40]; decide) (by rw [c_40]; decide) (by rw [c_40]; rfl) (by decide) ?_
      refine lv_aload_n hx hb dX4_handle_116 rfl (lv_at hl 1 rfl) ?_
      refine lv_iconst (v := 3) hx hb dX4_handle_117 (by decide) ?_
      refine lv_iconst (v := 0) hx hb dX4_handle_118 (by decide) ?_
      refine lv_iconst (v := (-1)) hx hb dX4_handle_119 (by decide) ?_
      refine k_Vi (q0 := 0) (As := [.int 3, .int 0, .int (-1)]) (rest := []) (w1 := mdW bd cy C (nt N (100 * M.1 j + nI k), mkM M 3 0 (-1)) rn out code X) (G := nI M.2.2.2.1) S I (c_make l D cy A bd C (nt N (100 * M.1 j + nI k)) M rn out code X hM 3 0 (-1)) (cwV 3 hts gX4_handle_X4_make rfl rfl rfl (by decide +kernel) ⟨Nat.le_of_ble_eq_true rfl, Nat.le_of_ble_eq_true rfl⟩) rfl rfl rfl rfl hl.1 rfl (Nat.le_of_ble_eq_true rfl) dX4_handle_120 ⟨Nat.zero_le _, Nat.zero_le _⟩ (fun H locs I => ?_)
      have e : hdM C k j (N, M) = ((nt N (100 * M.1 j + nI k), mkM M 3 0 (-1)), nI M.2.2.2.1) := by unfold hdM; rw [if_neg c_19]; dsimp only; rw [if_neg (by rw [c_40]; decide), if_neg (by rw [c_40]; decide), if_neg (by rw [c_40]; decide), if_neg (by rw [c_40]; decide), if_pos c_40]
      exact k_iret S hr hlk I (by rw [e]) (by rw [e]) dX4_handle_123
  · refine lv_iload_n hx hb dX4_handle_22 rfl (lv_at hl 3 rfl) ?_
    have e : hdM C k j (N, M) = ((N, M), nI j) := by unfold hdM; rw [if_pos c_19]
    exact k_iret S hr hlk I (by rw [e]) (by rw [e]) dX4_handle_23
theorem in_X4_last_X4 : ∀ w ∈ u_ws RX4 TX4 15, w ∈ wsX4_last := by decide +kernel
set_option maxHeartbeats 4000000 in
set_option maxRecDepth 100000 in
/-- last -/
theorem c_last (l : Launch) (D : va_G) (cy : Nat → ClassId) (A : Nat → Prop) (bd : Nat → Nat) (C : rC) (N : rN) (M : mM) (rn out code : Int32) (X : va_W) (hN : N.2 < 99990) (hM : M.2.2.2.1 < 4096) (k : Nat) (hk : k < 6) (t : Int32) : Met l yX4_last wsX4_last ({ frames := 1, cells := 0, slots := 0, locals := 40 }) (va_Pc [.ref (bd 0), .int (nI k), .int t] (KP D cy A (mdW bd cy C (N, M) rn out code X))) (va_Qi (fun (r : Int32) (_ : Unit) => r = (lsM C k t (N, M)).2) (fun _ => KB D cy A (mdW bd cy C ((lsM C k t (N, M)).1) rn out code X)) A) 0 0 A := by
  refine k_open (own := RX4) (maxL := 3) (ret := (some .int)) (by decide) rfl rfl (Nat.le_of_ble_eq_true rfl) (fun p e s m args below meth c S hr hlk I ls hl => ?_)
  obtain ⟨hx, hb, hml, hown, hts⟩ := id S
  have hl : lv_has ls 3 [(0, .ref (bd 0)), (1, .int (nI k)), (2, .int t)] := hl
  refine lv_aload_n hx hb dX4_last_0 rfl (lv_at hl 0 rfl) ?_
  refine lv_sipush (v := 600) hx hb dX4_last_1 (by decide) ?_
  refine lv_iload_n hx hb dX4_last_4 rfl (lv_at hl 1 rfl) ?_
  refine lv_iadd hx hb dX4_last_5 ?_
  refine k_Vv (q0 := 0) (As := [.int (600 + (nI k))]) (rest := []) (w1 := mdW bd cy C (nt N (600 + nI k), M) rn out code X) S I (c_note0 l D cy A bd C N M rn out code X (by omega) (600 + nI k)) (cwV 1 hts gX4_last_X4_note0 rfl rfl rfl (by decide +kernel) ⟨Nat.le_of_ble_eq_true rfl, Nat.le_of_ble_eq_true rfl⟩) rfl rfl rfl rfl hl.1 rfl (Nat.le_of_ble_eq_true rfl) dX4_last_6 ⟨Nat.zero_le _, Nat.zero_le _⟩ (fun H locs I => ?_)
  refine lv_aload_n hx hb dX4_last_9 rfl (lv_at hl 0 rfl) ?_
  refine k_get (T := TX4) (N := 15) (ci := 4) (k := 2) (q0 := 0) (v := .ref (bd 3)) S I in_X4_last_X4 rfl rfl (by decide) (by decide +kernel) rfl dX4_last_10 ?_
  refine lv_iload_n hx hb dX4_last_13 rfl (lv_at hl 1 rfl) ?_
  refine k_iald (q0 := 3) (t0 := 6) (j := k) (x := C.2.2.1 k) S I rfl rfl hk (by decide) rfl rfl dX4_last_14 ?_
  refine lv_iconst (v := 1) hx hb dX4_last_15 (by decide) ?_
  refine lv_icmp_ne (tgt := 31) hx hb dX4_last_16 (by decide) (fun c_16 => ?_) (fun c_16 => ?_)
  · refine lv_aload_n hx hb dX4_last_31 rfl (lv_at hl 0 rfl) ?_
    refine k_get (T := TX4) (N := 15) (ci := 4) (k := 2) (q0 := 0) (v := .ref (bd 3)) S I in_X4_last_X4 rfl rfl (by decide) (by decide +kernel) rfl dX4_last_32 ?_
    refine lv_iload_n hx hb dX4_last_35 rfl (lv_at hl 1 rfl) ?_
    refine k_iald (q0 := 3) (t0 := 6) (j := k) (x := C.2.2.1 k) S I rfl rfl hk (by decide) rfl rfl dX4_last_36 ?_
    refine lv_iconst (v := 2) hx hb dX4_last_37 (by decide) ?_
    refine lv_icmp_ne (tgt := 54) hx hb dX4_last_38 (by decide) (fun c_38 => ?_) (fun c_38 => ?_)
    · refine lv_aload_n hx hb dX4_last_54 rfl (lv_at hl 0 rfl) ?_
      refine k_get (T := TX4) (N := 15) (ci := 4) (k := 2) (q0 := 0) (v := .ref (bd 3)) S I in_X4_last_X4 rfl rfl (by decide) (by decide +kernel) rfl dX4_last_55 ?_
      refine lv_iload_n hx hb dX4_last_58 rfl (lv_at hl 1 rfl) ?_
      refine k_iald (q0 := 3) (t0 := 6) (j := k) (x := C.2.2.1 k) S I rfl rfl hk (by decide) rfl rfl dX4_last_59 ?_
      refine lv_iconst (v := 3) hx hb dX4_last_60 (by decide) ?_
      refine lv_icmp_ne (tgt := 72) hx hb dX4_last_61 (by decide) (fun c_61 => ?_) (fun c_61 => ?_)
      · refine lv_iload_n hx hb dX4_last_72 rfl (lv_at hl 2 rfl) ?_
        have e : lsM C k t (N, M) = ((nt N (600 + nI k), M), t) := by unfold lsM; dsimp only; rw [if_neg c_16, if_neg c_38, if_neg c_61]
        exact k_iret S hr hlk I (by rw [e]) (by rw [e]) dX4_last_73
      · refine lv_aload_n hx hb dX4_last_64 rfl (lv_at hl 0 rfl) ?_
        refine lv_iconst (v := 3) hx hb dX4_last_65 (by decide) ?_
        refine lv_iconst (v := 0) hx hb dX4_last_66 (by decide) ?_
        refine lv_iconst (v := (-1)) hx hb dX4_last_67 (by decide) ?_
        refine k_Vi (q0 := 0) (As := [.int 3, .int 0, .int (-1)]) (rest := []) (w1 := mdW bd cy C (nt N (600 + nI k), mkM M 3 0 (-1)) rn out code X) (G := nI M.2.2.2.1) S I (c_make l D cy A bd C (nt N (600 + nI k)) M rn out code X hM 3 0 (-1)) (cwV 3 hts gX4_last_X4_make rfl rfl rfl (by decide +kernel) ⟨Nat.le_of_ble_eq_true rfl, Nat.le_of_ble_eq_true rfl⟩) rfl rfl rfl rfl hl.1 rfl (Nat.le_of_ble_eq_true rfl) dX4_last_68 ⟨Nat.zero_le _, Nat.zero_le _⟩ (fun H locs I => ?_)
        have e : lsM C k t (N, M) = ((nt N (600 + nI k), mkM M 3 0 (-1)), nI M.2.2.2.1) := by unfold lsM; dsimp only; rw [if_neg c_16, if_neg c_38, if_pos c_61]
        exact k_iret S hr hlk I (by rw [e]) (by rw [e]) dX4_last_71
    · refine lv_aload_n hx hb dX4_last_41 rfl (lv_at hl 0 rfl) ?_
      refine lv_iconst (v := 1) hx hb dX4_last_42 (by decide) ?_
      refine lv_aload_n hx hb dX4_last_43 rfl (lv_at hl 0 rfl) ?_
      refine k_get (T := TX4) (N := 15) (ci := 4) (k := 3) (q0 := 0) (v := .ref (bd 4)) S I in_X4_last_X4 rfl rfl (by decide) (by decide +kernel) rfl dX4_last_44 ?_
      refine lv_iload_n hx hb dX4_last_47 rfl (lv_at hl 1 rfl) ?_
      refine k_iald (q0 := 4) (t0 := 7) (j := k) (x := C.2.2.2 k) S I rfl rfl hk (by decide) rfl rfl dX4_last_48 ?_
      refine lv_iconst (v := (-1)) hx hb dX4_last_49 (by decide) ?_
      refine k_Vi (q0 := 0) (As := [.int 1, .int (C.2.2.2 k), .int (-1)]) (rest := []) (w1 := mdW bd cy C (nt N (600 + nI k), mkM M 1 (C.2.2.2 k) (-1)) rn out code X) (G := nI M.2.2.2.1) S I (c_make l D cy A bd C (nt N (600 + nI k)) M rn out code X hM 1 (C.2.2.2 k) (-1)) (cwV 3 hts gX4_last_X4_make rfl rfl rfl (by decide +kernel) ⟨Nat.le_of_ble_eq_true rfl, Nat.le_of_ble_eq_true rfl⟩) rfl rfl rfl rfl hl.1 rfl (Nat.le_of_ble_eq_true rfl) dX4_last_50 ⟨Nat.zero_le _, Nat.zero_le _⟩ (fun H locs I => ?_)
      have e : lsM C k t (N, M) = ((nt N (600 + nI k), mkM M 1 (C.2.2.2 k) (-1)), nI M.2.2.2.1) := by unfold lsM; dsimp only; rw [if_neg c_16, if_pos c_38]
      exact k_iret S hr hlk I (by rw [e]) (by rw [e]) dX4_last_53
  · refine lv_aload_n hx hb dX4_last_19 rfl (lv_at hl 0 rfl) ?_
    refine lv_aload_n hx hb dX4_last_20 rfl (lv_at hl 0 rfl) ?_
    refine k_get (T := TX4) (N := 15) (ci := 4) (k := 3) (q0 := 0) (v := .ref (bd 4)) S I in_X4_last_X4 rfl rfl (by decide) (by decide +kernel) rfl dX4_last_21 ?_
    refine lv_iload_n hx hb dX4_last_24 rfl (lv_at hl 1 rfl) ?_
    refine k_iald (q0 := 4) (t0 := 7) (j := k) (x := C.2.2.2 k) S I rfl rfl hk (by decide) rfl rfl dX4_last_25 ?_
    refine lv_i2l (v := (C.2.2.2 k).toInt64) hx hb dX4_last_26 rfl ?_
    refine k_Vi (q0 := 0) (As := [.long (C.2.2.2 k).toInt64]) (rest := []) (w1 := mdW bd cy C (nt N (600 + nI k), anM M ((C.2.2.2 k).toInt64)) rn out code X) (G := -1) S I (c_answers l D cy A bd C (nt N (600 + nI k)) M rn out code X ((C.2.2.2 k).toInt64)) (cwV 1 hts gX4_last_X4_answers rfl rfl rfl (by decide +kernel) ⟨Nat.le_of_ble_eq_true rfl, Nat.le_of_ble_eq_true rfl⟩) rfl rfl rfl rfl hl.1 rfl (Nat.le_of_ble_eq_true rfl) dX4_last_27 ⟨Nat.zero_le _, Nat.zero_le _⟩ (fun H locs I => ?_)
    have e : lsM C k t (N, M) = ((nt N (600 + nI k), anM M (C.2.2.2 k).toInt64), -1) := by unfold lsM; dsimp only; rw [if_pos c_16]
    exact k_iret S hr hlk I (by rw [e]) (by rw [e]) dX4_last_30
theorem isL_1 {k : Nat} (hk : k < 6) : isL (nI k) = 1 := by unfold isL; rw [if_neg (nI_pos (by omega)), if_neg (show ¬ (6 : Int32) ≤ nI k from nI_ge (b := 6) hk (by decide))]
theorem isL_b (x : Int32) : narrow .boolean (.int (isL x)) = .int (isL x) := by
  unfold isL
  split
  · rfl
  · split <;> rfl
theorem isL_of {x : Int32} (h : ¬ isL x = 0) : ∃ k : Nat, k < 6 ∧ x = nI k := by
  unfold isL at h
  split at h
  · exact absurd rfl h
  · split at h
    · exact absurd rfl h
    · rcases pk_ix x (n := 6) (by decide) with h1 | h1 | h1
      · exact absurd h1 (by assumption)
      · exact absurd h1 (by assumption)
      · exact h1
theorem in_X4_set_X4 : ∀ w ∈ u_ws RX4 TX4 15, w ∈ wsX4_set := by decide +kernel
set_option maxHeartbeats 4000000 in
set_option maxRecDepth 100000 in
/-- set, no such level -/
theorem c_mset0 (l : Launch) (D : va_G) (cy : Nat → ClassId) (A : Nat → Prop) (bd : Nat → Nat) (C : rC) (N : rN) (M : mM) (rn out code : Int32) (X : va_W) (x a b d v : Int32) (hx0 : isL x = 0) : Met l yX4_set wsX4_set ({ frames := 1, cells := 0, slots := 0, locals := 40 }) (va_Pc [.ref (bd 0), .int x, .int a, .int b, .int d, .int v] (KP D cy A (mdW bd cy C (N, M) rn out code X))) (va_Qi (fun (r : Int32) (_ : Unit) => r = 0) (fun _ => KB D cy A (mdW bd cy C (N, M) rn out 1 X)) A) 0 0 A := by
  refine k_open (own := RX4) (maxL := 7) (ret := (some .int)) (by decide) rfl rfl (Nat.le_of_ble_eq_true rfl) (fun p e s m args below meth c S hr hlk I ls hl => ?_)
  obtain ⟨hx, hb, hml, hown, hts⟩ := id S
  have hl : lv_has ls 7 [(0, .ref (bd 0)), (1, .int x), (2, .int a), (3, .int b), (4, .int d), (5, .int v)] := hl
  refine lv_aload_n hx hb dX4_set_0 rfl (lv_at hl 0 rfl) ?_
  refine lv_iload_n hx hb dX4_set_1 rfl (lv_at hl 1 rfl) ?_
  refine k_Si (As := [.int x]) (rest := [.ref (bd 0)]) (w1 := mdW bd cy C (N, M) rn out code X) (G := isL x) S I (c_misLevel l D cy A bd C N M rn out code X x) (va_cwS 1 hts gX4_set_X4_isLevel rfl rfl rfl (by decide +kernel) ⟨Nat.le_of_ble_eq_true rfl, Nat.le_of_ble_eq_true rfl⟩) rfl hl.1 rfl (Nat.le_of_ble_eq_true rfl) dX4_set_2 ⟨Nat.zero_le _, Nat.zero_le _⟩ (fun H locs I => ?_)
  refine lv_iconst (v := 1) hx hb dX4_set_5 (by decide) ?_
  refine k_Vi (q0 := 0) (As := [.int (isL x), .int 1]) (rest := []) (w1 := mdW bd cy C (N, M) rn out (gdC (isL x) 1) X) (G := isL x) S I (c_good l D cy A bd C N M rn out code X (isL x) 1 (isL_b x)) (cwV 2 hts gX4_set_X4_good rfl rfl rfl (by decide +kernel) ⟨Nat.le_of_ble_eq_true rfl, Nat.le_of_ble_eq_true rfl⟩) rfl rfl rfl rfl hl.1 rfl (Nat.le_of_ble_eq_true rfl) dX4_set_6 ⟨Nat.zero_le _, Nat.zero_le _⟩ (fun H locs I => ?_)
  refine lv_if_ne (tgt := 14) hx hb dX4_set_9 (by decide) (fun c_9 => ?_) (fun c_9 => ?_)
  · exact absurd hx0 c_9
  · have e : gdC (isL x) 1 = 1 := by unfold gdC; rw [if_pos hx0]
    refine lv_iconst (v := 0) hx hb dX4_set_12 (by decide) ?_
    exact k_iret S hr hlk I rfl (by rw [e]) dX4_set_13
set_option maxHeartbeats 4000000 in
set_option maxRecDepth 100000 in
/-- set, a level -/
theorem c_mset1 (l : Launch) (D : va_G) (cy : Nat → ClassId) (A : Nat → Prop) (bd : Nat → Nat) (C : rC) (N : rN) (M : mM) (rn out code : Int32) (X : va_W) (k : Nat) (hk : k < 6) (a b d v : Int32) : Met l yX4_set wsX4_set ({ frames := 1, cells := 0, slots := 0, locals := 40 }) (va_Pc [.ref (bd 0), .int (nI k), .int a, .int b, .int d, .int v] (KP D cy A (mdW bd cy C (N, M) rn out code X))) (va_Qi (fun (r : Int32) (_ : Unit) => r = C.2.2.2 k) (fun _ => KB D cy A (mdW bd cy (upd C.1 k a, upd C.2.1 k b, upd C.2.2.1 k d, upd C.2.2.2 k v) (N, M) rn out 0 X)) A) 0 0 A := by
  refine k_open (own := RX4) (maxL := 7) (ret := (some .int)) (by decide) rfl rfl (Nat.le_of_ble_eq_true rfl) (fun p e s m args below meth c S hr hlk I ls hl => ?_)
  obtain ⟨hx, hb, hml, hown, hts⟩ := id S
  have hl : lv_has ls 7 [(0, .ref (bd 0)), (1, .int (nI k)), (2, .int a), (3, .int b), (4, .int d), (5, .int v)] := hl
  refine lv_aload_n hx hb dX4_set_0 rfl (lv_at hl 0 rfl) ?_
  refine lv_iload_n hx hb dX4_set_1 rfl (lv_at hl 1 rfl) ?_
  refine k_Si (As := [.int (nI k)]) (rest := [.ref (bd 0)]) (w1 := mdW bd cy C (N, M) rn out code X) (G := isL (nI k)) S I (c_misLevel l D cy A bd C N M rn out code X (nI k)) (va_cwS 1 hts gX4_set_X4_isLevel rfl rfl rfl (by decide +kernel) ⟨Nat.le_of_ble_eq_true rfl, Nat.le_of_ble_eq_true rfl⟩) rfl hl.1 rfl (Nat.le_of_ble_eq_true rfl) dX4_set_2 ⟨Nat.zero_le _, Nat.zero_le _⟩ (fun H locs I => ?_)
  refine lv_iconst (v := 1) hx hb dX4_set_5 (by decide) ?_
  refine k_Vi (q0 := 0) (As := [.int (isL (nI k)), .int 1]) (rest := []) (w1 := mdW bd cy C (N, M) rn out (gdC (isL (nI k)) 1) X) (G := isL (nI k)) S I (c_good l D cy A bd C N M rn out code X (isL (nI k)) 1 (isL_b (nI k))) (cwV 2 hts gX4_set_X4_good rfl rfl rfl (by decide +kernel) ⟨Nat.le_of_ble_eq_true rfl, Nat.le_of_ble_eq_true rfl⟩) rfl rfl rfl rfl hl.1 rfl (Nat.le_of_ble_eq_true rfl) dX4_set_6 ⟨Nat.zero_le _, Nat.zero_le _⟩ (fun H locs I => ?_)
  refine lv_if_ne (tgt := 14) hx hb dX4_set_9 (by decide) (fun c_9 => ?_) (fun c_9 => ?_)
  · have e : gdC (isL (nI k)) 1 = 0 := by unfold gdC; rw [if_neg c_9]
    rw [e] at I
    refine lv_aload_n hx hb dX4_set_14 rfl (lv_at hl 0 rfl) ?_
    refine k_get (T := TX4) (N := 15) (ci := 4) (k := 3) (q0 := 0) (v := .ref (bd 4)) S I in_X4_set_X4 rfl rfl (by decide) (by decide +kernel) rfl dX4_set_15 ?_
    refine lv_iload_n hx hb dX4_set_18 rfl (lv_at hl 1 rfl) ?_
    refine k_iald (q0 := 4) (t0 := 7) (j := k) (x := C.2.2.2 k) S I rfl rfl hk (by decide) rfl rfl dX4_set_19 ?_
    refine lv_istore (lv' := [(6, .int (C.2.2.2 k)), (0, .ref (bd 0)), (1, .int (nI k)), (2, .int a), (3, .int b), (4, .int d), (5, .int v)]) hx hb dX4_set_20 hl (by decide) rfl (fun ls hl => ?_)
    refine lv_aload_n hx hb dX4_set_22 rfl (lv_at hl 1 rfl) ?_
    refine k_get (T := TX4) (N := 15) (ci := 4) (k := 0) (q0 := 0) (v := .ref (bd 1)) S I in_X4_set_X4 rfl rfl (by decide) (by decide +kernel) rfl dX4_set_23 ?_
    refine lv_iload_n hx hb dX4_set_26 rfl (lv_at hl 2 rfl) ?_
    refine lv_iload_n hx hb dX4_set_27 rfl (lv_at hl 3 rfl) ?_
    refine k_iast (q0 := 1) (t0 := 4) (j := k) (w1 := mdW bd cy (upd C.1 k a, C.2) (N, M) rn out 0 X) S I rfl rfl hk (by decide) rfl rfl dX4_set_28 (fun H locs I => ?_)
    refine lv_aload_n hx hb dX4_set_29 rfl (lv_at hl 1 rfl) ?_
    refine k_get (T := TX4) (N := 15) (ci := 4) (k := 1) (q0 := 0) (v := .ref (bd 2)) S I in_X4_set_X4 rfl rfl (by decide) (by decide +kernel) rfl dX4_set_30 ?_
    refine lv_iload_n hx hb dX4_set_33 rfl (lv_at hl 2 rfl) ?_
    refine lv_iload_n hx hb dX4_set_34 rfl (lv_at hl 4 rfl) ?_
    refine k_iast (q0 := 2) (t0 := 5) (j := k) (w1 := mdW bd cy (upd C.1 k a, upd C.2.1 k b, C.2.2) (N, M) rn out 0 X) S I rfl rfl hk (by decide) rfl rfl dX4_set_35 (fun H locs I => ?_)
    refine lv_aload_n hx hb dX4_set_36 rfl (lv_at hl 1 rfl) ?_
    refine k_get (T := TX4) (N := 15) (ci := 4) (k := 2) (q0 := 0) (v := .ref (bd 3)) S I in_X4_set_X4 rfl rfl (by decide) (by decide +kernel) rfl dX4_set_37 ?_
    refine lv_iload_n hx hb dX4_set_40 rfl (lv_at hl 2 rfl) ?_
    refine lv_iload hx hb dX4_set_41 (lv_at hl 5 rfl) ?_
    refine k_iast (q0 := 3) (t0 := 6) (j := k) (w1 := mdW bd cy (upd C.1 k a, upd C.2.1 k b, upd C.2.2.1 k d, C.2.2.2) (N, M) rn out 0 X) S I rfl rfl hk (by decide) rfl rfl dX4_set_43 (fun H locs I => ?_)
    refine lv_aload_n hx hb dX4_set_44 rfl (lv_at hl 1 rfl) ?_
    refine k_get (T := TX4) (N := 15) (ci := 4) (k := 3) (q0 := 0) (v := .ref (bd 4)) S I in_X4_set_X4 rfl rfl (by decide) (by decide +kernel) rfl dX4_set_45 ?_
    refine lv_iload_n hx hb dX4_set_48 rfl (lv_at hl 2 rfl) ?_
    refine lv_iload hx hb dX4_set_49 (lv_at hl 6 rfl) ?_
    refine k_iast (q0 := 4) (t0 := 7) (j := k) (w1 := mdW bd cy (upd C.1 k a, upd C.2.1 k b, upd C.2.2.1 k d, upd C.2.2.2 k v) (N, M) rn out 0 X) S I rfl rfl hk (by decide) rfl rfl dX4_set_51 (fun H locs I => ?_)
    refine lv_iload hx hb dX4_set_52 (lv_at hl 0 rfl) ?_
    exact k_iret S hr hlk I rfl rfl dX4_set_54
  · exact absurd (c_9.symm.trans (isL_1 hk)) (by decide)
theorem in_X4_note_X4 : ∀ w ∈ u_ws RX4 TX4 15, w ∈ wsX4_note := by decide +kernel
set_option maxHeartbeats 4000000 in
set_option maxRecDepth 100000 in
/-- note, there is none -/
theorem c_mnote0 (l : Launch) (D : va_G) (cy : Nat → ClassId) (A : Nat → Prop) (bd : Nat → Nat) (C : rC) (N : rN) (M : mM) (rn out code : Int32) (X : va_W) (x : Int32) (hn : x < 0 ∨ nI N.2 ≤ x ∨ 64 ≤ x) : Met l yX4_note wsX4_note ({ frames := 1, cells := 0, slots := 0, locals := 40 }) (va_Pc [.ref (bd 0), .int x] (KP D cy A (mdW bd cy C (N, M) rn out code X))) (va_Qi (fun (r : Int32) (_ : Unit) => r = 0) (fun _ => KB D cy A (mdW bd cy C (N, M) rn out 1 X)) A) 0 0 A := by
  refine k_open (own := RX4) (maxL := 2) (ret := (some .int)) (by decide) rfl rfl (Nat.le_of_ble_eq_true rfl) (fun p e s m args below meth c S hr hlk I ls hl => ?_)
  obtain ⟨hx, hb, hml, hown, hts⟩ := id S
  have hl : lv_has ls 2 [(0, .ref (bd 0)), (1, .int x)] := hl
  refine lv_aload_n hx hb dX4_note_0 rfl (lv_at hl 0 rfl) ?_
  refine lv_iload_n hx hb dX4_note_1 rfl (lv_at hl 1 rfl) ?_
  refine lv_if_lt (tgt := 23) hx hb dX4_note_2 (by decide) (fun c_2 => ?_) (fun c_2 => ?_)
  · refine lv_iconst (v := 0) hx hb dX4_note_23 (by decide) ?_
    refine lv_iconst (v := 1) hx hb dX4_note_24 (by decide) ?_
    refine k_Vi (q0 := 0) (As := [.int 0, .int 1]) (rest := []) (w1 := mdW bd cy C (N, M) rn out (gdC 0 1) X) (G := 0) S I (c_good l D cy A bd C N M rn out code X 0 1 rfl) (cwV 2 hts gX4_note_X4_good rfl rfl rfl (by decide +kernel) ⟨Nat.le_of_ble_eq_true rfl, Nat.le_of_ble_eq_true rfl⟩) rfl rfl rfl rfl hl.1 rfl (Nat.le_of_ble_eq_true rfl) dX4_note_25 ⟨Nat.zero_le _, Nat.zero_le _⟩ (fun H locs I => ?_)
    refine lv_if_ne (tgt := 33) hx hb dX4_note_28 (by decide) (fun c_28 => ?_) (fun c_28 => ?_)
    · exact absurd rfl c_28
    · refine lv_iconst (v := 0) hx hb dX4_note_31 (by decide) ?_
      exact k_iret S hr hlk I rfl rfl dX4_note_32
  · refine lv_iload_n hx hb dX4_note_5 rfl (lv_at hl 1 rfl) ?_
    refine lv_aload_n hx hb dX4_note_6 rfl (lv_at hl 0 rfl) ?_
    refine k_get (T := TX4) (N := 15) (ci := 4) (k := 5) (q0 := 0) (v := .int (nI (N, M).1.2)) S I in_X4_note_X4 rfl rfl (by decide) (by decide +kernel) rfl dX4_note_7 ?_
    refine lv_icmp_ge (tgt := 23) hx hb dX4_note_10 (by decide) (fun c_10 => ?_) (fun c_10 => ?_)
    · refine lv_iconst (v := 0) hx hb dX4_note_23 (by decide) ?_
      refine lv_iconst (v := 1) hx hb dX4_note_24 (by decide) ?_
      refine k_Vi (q0 := 0) (As := [.int 0, .int 1]) (rest := []) (w1 := mdW bd cy C (N, M) rn out (gdC 0 1) X) (G := 0) S I (c_good l D cy A bd C N M rn out code X 0 1 rfl) (cwV 2 hts gX4_note_X4_good rfl rfl rfl (by decide +kernel) ⟨Nat.le_of_ble_eq_true rfl, Nat.le_of_ble_eq_true rfl⟩) rfl rfl rfl rfl hl.1 rfl (Nat.le_of_ble_eq_true rfl) dX4_note_25 ⟨Nat.zero_le _, Nat.zero_le _⟩ (fun H locs I => ?_)
      refine lv_if_ne (tgt := 33) hx hb dX4_note_28 (by decide) (fun c_28 => ?_) (fun c_28 => ?_)
      · exact absurd rfl c_28
      · refine lv_iconst (v := 0) hx hb dX4_note_31 (by decide) ?_
        exact k_iret S hr hlk I rfl rfl dX4_note_32
    · refine lv_iload_n hx hb dX4_note_13 rfl (lv_at hl 1 rfl) ?_
      refine lv_bipush (v := 64) hx hb dX4_note_14 (by decide) ?_
      refine lv_icmp_ge (tgt := 23) hx hb dX4_note_16 (by decide) (fun c_16 => ?_) (fun c_16 => ?_)
      · refine lv_iconst (v := 0) hx hb dX4_note_23 (by decide) ?_
        refine lv_iconst (v := 1) hx hb dX4_note_24 (by decide) ?_
        refine k_Vi (q0 := 0) (As := [.int 0, .int 1]) (rest := []) (w1 := mdW bd cy C (N, M) rn out (gdC 0 1) X) (G := 0) S I (c_good l D cy A bd C N M rn out code X 0 1 rfl) (cwV 2 hts gX4_note_X4_good rfl rfl rfl (by decide +kernel) ⟨Nat.le_of_ble_eq_true rfl, Nat.le_of_ble_eq_true rfl⟩) rfl rfl rfl rfl hl.1 rfl (Nat.le_of_ble_eq_true rfl) dX4_note_25 ⟨Nat.zero_le _, Nat.zero_le _⟩ (fun H locs I => ?_)
        refine lv_if_ne (tgt := 33) hx hb dX4_note_28 (by decide) (fun c_28 => ?_) (fun c_28 => ?_)
        · exact absurd rfl c_28
        · refine lv_iconst (v := 0) hx hb dX4_note_31 (by decide) ?_
          exact k_iret S hr hlk I rfl rfl dX4_note_32
      · exact absurd hn (fun h => h.elim c_2 (fun h => h.elim c_10 c_16))
set_option maxHeartbeats 4000000 in
set_option maxRecDepth 100000 in
/-- note, one that was kept -/
theorem c_mnote1 (l : Launch) (D : va_G) (cy : Nat → ClassId) (A : Nat → Prop) (bd : Nat → Nat) (C : rC) (N : rN) (M : mM) (rn out code : Int32) (X : va_W) (k : Nat) (h1 : k < N.2) (h2 : k < 64) (hN : N.2 < 100000) : Met l yX4_note wsX4_note ({ frames := 1, cells := 0, slots := 0, locals := 40 }) (va_Pc [.ref (bd 0), .int (nI k)] (KP D cy A (mdW bd cy C (N, M) rn out code X))) (va_Qi (fun (r : Int32) (_ : Unit) => r = N.1 k) (fun _ => KB D cy A (mdW bd cy C (N, M) rn out 0 X)) A) 0 0 A := by
  refine k_open (own := RX4) (maxL := 2) (ret := (some .int)) (by decide) rfl rfl (Nat.le_of_ble_eq_true rfl) (fun p e s m args below meth c S hr hlk I ls hl => ?_)
  obtain ⟨hx, hb, hml, hown, hts⟩ := id S
  have hl : lv_has ls 2 [(0, .ref (bd 0)), (1, .int (nI k))] := hl
  refine lv_aload_n hx hb dX4_note_0 rfl (lv_at hl 0 rfl) ?_
  refine lv_iload_n hx hb dX4_note_1 rfl (lv_at hl 1 rfl) ?_
  refine lv_if_lt (tgt := 23) hx hb dX4_note_2 (by decide) (fun c_2 => ?_) (fun c_2 => ?_)
  · exact absurd c_2 (nI_pos (by omega))
  · refine lv_iload_n hx hb dX4_note_5 rfl (lv_at hl 1 rfl) ?_
    refine lv_aload_n hx hb dX4_note_6 rfl (lv_at hl 0 rfl) ?_
    refine k_get (T := TX4) (N := 15) (ci := 4) (k := 5) (q0 := 0) (v := .int (nI (N, M).1.2)) S I in_X4_note_X4 rfl rfl (by decide) (by decide +kernel) rfl dX4_note_7 ?_
    refine lv_icmp_ge (tgt := 23) hx hb dX4_note_10 (by decide) (fun c_10 => ?_) (fun c_10 => ?_)
    · exact absurd c_10 (nI_ge (b := N.2) h1 (by omega))
    · refine lv_iload_n hx hb dX4_note_13 rfl (lv_at hl 1 rfl) ?_
      refine lv_bipush (v := 64) hx hb dX4_note_14 (by decide) ?_
      refine lv_icmp_ge (tgt := 23) hx hb dX4_note_16 (by decide) (fun c_16 => ?_) (fun c_16 => ?_)
      · exact absurd c_16 (nI_ge (b := 64) h2 (by decide))
      · refine lv_iconst (v := 1) hx hb dX4_note_19 (by decide) ?_
        refine lv_goto (tgt := 24) hx hb dX4_note_20 (by decide) ?_
        refine lv_iconst (v := 1) hx hb dX4_note_24 (by decide) ?_
        refine k_Vi (q0 := 0) (As := [.int 1, .int 1]) (rest := []) (w1 := mdW bd cy C (N, M) rn out (gdC 1 1) X) (G := 1) S I (c_good l D cy A bd C N M rn out code X 1 1 rfl) (cwV 2 hts gX4_note_X4_good rfl rfl rfl (by decide +kernel) ⟨Nat.le_of_ble_eq_true rfl, Nat.le_of_ble_eq_true rfl⟩) rfl rfl rfl rfl hl.1 rfl (Nat.le_of_ble_eq_true rfl) dX4_note_25 ⟨Nat.zero_le _, Nat.zero_le _⟩ (fun H locs I => ?_)
        refine lv_if_ne (tgt := 33) hx hb dX4_note_28 (by decide) (fun c_28 => ?_) (fun c_28 => ?_)
        · refine lv_aload_n hx hb dX4_note_33 rfl (lv_at hl 0 rfl) ?_
          refine k_get (T := TX4) (N := 15) (ci := 4) (k := 4) (q0 := 0) (v := .ref (bd 5)) S I in_X4_note_X4 rfl rfl (by decide) (by decide +kernel) rfl dX4_note_34 ?_
          refine lv_iload_n hx hb dX4_note_37 rfl (lv_at hl 1 rfl) ?_
          refine k_iald (q0 := 5) (t0 := 8) (j := k) (x := ((N, M).1.1) k) S I rfl rfl h2 (by decide) rfl rfl dX4_note_38 ?_
          exact k_iret S hr hlk I rfl rfl dX4_note_39
        · exact absurd c_28 (by decide)
theorem in_X4_sink_X4 : ∀ w ∈ u_ws RX4 TX4 15, w ∈ wsX4_sink := by decide +kernel
set_option maxHeartbeats 4000000 in
set_option maxRecDepth 100000 in
/-- sink's loop, at its head -/
theorem lp_sink {p : Program} {l : Launch} {e : Env} {s : State} {m : MethodId} {args : Array Value} {below : List Frame} {meth : Method} {c : Code} {D : va_G} {cy : Nat → ClassId} {A : Nat → Prop} {bd : Nat → Nat} {C : rC} {rn out code : Int32} {X : va_W} {kk0 b v : Int32}
    (S : CallFix p m c cX4_sink 5 s args wsX4_sink RX4) (hr : meth.sig.returnType = some .int) (hlk : meth.locks = false) :
    ∀ (i : Nat), i < 6 → ∀ (N : rN) (M : mM), N.2 + i < 99980 → M.2.2.2.1 < 4096 → ∀ (H : Heap) (locs : List Loc), KI D cy A (mdW bd cy C (N, M) rn out code X) s H locs → ∀ ls : Array Slot, lv_has ls 5 [(4, .int (nI i)), (0, .ref (bd 0)), (1, .int kk0), (2, .int b), (3, .int v)] →
    W p l e ({ frames := 2, cells := 0, slots := 0, locals := 80 }) s m args below meth c H locs 0 0 (MQ below (va_Qi (fun (r : Int32) (_ : Unit) => r = (skM i b v (N, M)).2) (fun _ => KB D cy A (mdW bd cy C (skM i b v (N, M)).1 rn out code X)) A) args s 0 0 A) (F0 m 3 ls []) := by
  obtain ⟨hx, hb, hml, hown, hts⟩ := id S
  intro i
  induction i with
  | zero =>
    intro hi N M hN hM H locs I ls hl
    refine lv_iload hx hb dX4_sink_3 (lv_at hl 0 rfl) ?_
    refine lv_if_lt (tgt := 28) hx hb dX4_sink_5 (by decide) (fun c_5 => ?_) (fun c_5 => ?_)
    · exact absurd c_5 (by decide)
    · refine lv_aload_n hx hb dX4_sink_8 rfl (lv_at hl 1 rfl) ?_
      refine lv_iload hx hb dX4_sink_9 (lv_at hl 0 rfl) ?_
      refine k_Vv (q0 := 0) (As := [.int (nI 0)]) (rest := []) (w1 := mdW bd cy C (nt N (nI 0), M) rn out code X) S I (c_note0 l D cy A bd C N M rn out code X (by omega) (nI 0)) (cwV 1 hts gX4_sink_X4_note0 rfl rfl rfl (by decide +kernel) ⟨Nat.le_of_ble_eq_true rfl, Nat.le_of_ble_eq_true rfl⟩) rfl rfl rfl rfl hl.1 rfl (Nat.le_of_ble_eq_true rfl) dX4_sink_11 ⟨Nat.zero_le _, Nat.zero_le _⟩ (fun H locs I => ?_)
      refine lv_aload_n hx hb dX4_sink_14 rfl (lv_at hl 1 rfl) ?_
      refine k_get (T := TX4) (N := 15) (ci := 4) (k := 14) (q0 := 0) (v := .ref (bd 9)) S I in_X4_sink_X4 rfl rfl (by decide) (by decide +kernel) rfl dX4_sink_15 ?_
      refine lv_iload hx hb dX4_sink_18 (lv_at hl 0 rfl) ?_
      refine lv_iconst (v := 0) hx hb dX4_sink_20 (by decide) ?_
      refine k_iast (q0 := 9) (t0 := 12) (j := 0) (w1 := mdW bd cy C (nt N (nI 0), phM M 0 0) rn out code X) S I rfl rfl (by omega) (by decide) rfl rfl dX4_sink_21 (fun H locs I => ?_)
      refine lv_iinc (v := (-1)) (lv' := [(4, .int (-1)), (0, .ref (bd 0)), (1, .int kk0), (2, .int b), (3, .int v)]) hx hb dX4_sink_22 hl (k := 0) rfl (by decide) (by decide) rfl (fun ls hl => ?_)
      refine lv_goto (tgt := 3) hx hb dX4_sink_25 (by decide) ?_
      refine lv_iload hx hb dX4_sink_3 (lv_at hl 0 rfl) ?_
      refine lv_if_lt (tgt := 28) hx hb dX4_sink_5 (by decide) (fun c_5 => ?_) (fun c_5 => ?_)
      · refine lv_aload_n hx hb dX4_sink_28 rfl (lv_at hl 1 rfl) ?_
        refine lv_iload_n hx hb dX4_sink_29 rfl (lv_at hl 3 rfl) ?_
        refine lv_iload_n hx hb dX4_sink_30 rfl (lv_at hl 4 rfl) ?_
        refine k_Vi (q0 := 0) (As := [.int b, .int v]) (rest := []) (w1 := mdW bd cy C ((btM b v (nt N (nI 0), phM M 0 0)).1) rn out code X) (G := (btM b v (nt N (nI 0), phM M 0 0)).2) S I (c_bottom l D cy A bd C (nt N (nI 0)) (phM M 0 0) rn out code X (by rw [nt_2]; omega) hM b v) (cwV 2 hts gX4_sink_X4_bottom rfl rfl rfl (by decide +kernel) ⟨Nat.le_of_ble_eq_true rfl, Nat.le_of_ble_eq_true rfl⟩) rfl rfl rfl rfl hl.1 rfl (Nat.le_of_ble_eq_true rfl) dX4_sink_31 ⟨Nat.zero_le _, Nat.zero_le _⟩ (fun H locs I => ?_)
        exact k_iret S hr hlk I rfl rfl dX4_sink_34
      · exact absurd (by decide) c_5
  | succ i ih =>
    intro hi N M hN hM H locs I ls hl
    refine lv_iload hx hb dX4_sink_3 (lv_at hl 0 rfl) ?_
    refine lv_if_lt (tgt := 28) hx hb dX4_sink_5 (by decide) (fun c_5 => ?_) (fun c_5 => ?_)
    · exact absurd c_5 (nI_pos (by omega))
    · refine lv_aload_n hx hb dX4_sink_8 rfl (lv_at hl 1 rfl) ?_
      refine lv_iload hx hb dX4_sink_9 (lv_at hl 0 rfl) ?_
      refine k_Vv (q0 := 0) (As := [.int (nI (i + 1))]) (rest := []) (w1 := mdW bd cy C (nt N (nI (i + 1)), M) rn out code X) S I (c_note0 l D cy A bd C N M rn out code X (by omega) (nI (i + 1))) (cwV 1 hts gX4_sink_X4_note0 rfl rfl rfl (by decide +kernel) ⟨Nat.le_of_ble_eq_true rfl, Nat.le_of_ble_eq_true rfl⟩) rfl rfl rfl rfl hl.1 rfl (Nat.le_of_ble_eq_true rfl) dX4_sink_11 ⟨Nat.zero_le _, Nat.zero_le _⟩ (fun H locs I => ?_)
      refine lv_aload_n hx hb dX4_sink_14 rfl (lv_at hl 1 rfl) ?_
      refine k_get (T := TX4) (N := 15) (ci := 4) (k := 14) (q0 := 0) (v := .ref (bd 9)) S I in_X4_sink_X4 rfl rfl (by decide) (by decide +kernel) rfl dX4_sink_15 ?_
      refine lv_iload hx hb dX4_sink_18 (lv_at hl 0 rfl) ?_
      refine lv_iconst (v := 0) hx hb dX4_sink_20 (by decide) ?_
      refine k_iast (q0 := 9) (t0 := 12) (j := i + 1) (w1 := mdW bd cy C (nt N (nI (i + 1)), phM M (i + 1) 0) rn out code X) S I rfl rfl (by omega) (by decide) rfl rfl dX4_sink_21 (fun H locs I => ?_)
      refine lv_iinc (v := (nI i)) (lv' := [(4, .int (nI i)), (0, .ref (bd 0)), (1, .int kk0), (2, .int b), (3, .int v)]) hx hb dX4_sink_22 hl (k := 0) rfl (pk_m1 i) (by decide) rfl (fun ls hl => ?_)
      refine lv_goto (tgt := 3) hx hb dX4_sink_25 (by decide) ?_
      exact ih (by omega) (nt N (nI (i + 1))) (phM M (i + 1) 0) (by rw [nt_2]; omega) hM _ _ I ls hl
set_option maxHeartbeats 4000000 in
set_option maxRecDepth 100000 in
/-- sink -/
theorem c_sink (l : Launch) (D : va_G) (cy : Nat → ClassId) (A : Nat → Prop) (bd : Nat → Nat) (C : rC) (N : rN) (M : mM) (rn out code : Int32) (X : va_W) (i : Nat) (hi : i < 6) (hN : N.2 + i < 99980) (hM : M.2.2.2.1 < 4096) (b v : Int32) : Met l yX4_sink wsX4_sink ({ frames := 2, cells := 0, slots := 0, locals := 80 }) (va_Pc [.ref (bd 0), .int (nI i), .int b, .int v] (KP D cy A (mdW bd cy C (N, M) rn out code X))) (va_Qi (fun (r : Int32) (_ : Unit) => r = (skM i b v (N, M)).2) (fun _ => KB D cy A (mdW bd cy C ((skM i b v (N, M)).1) rn out code X)) A) 0 0 A := by
  refine k_open (own := RX4) (maxL := 5) (ret := (some .int)) (by decide) rfl rfl (Nat.le_of_ble_eq_true rfl) (fun p e s m args below meth c S hr hlk I ls hl => ?_)
  obtain ⟨hx, hb, hml, hown, hts⟩ := id S
  have hl : lv_has ls 5 [(0, .ref (bd 0)), (1, .int (nI i)), (2, .int b), (3, .int v)] := hl
  refine lv_iload_n hx hb dX4_sink_0 rfl (lv_at hl 1 rfl) ?_
  refine lv_istore (lv' := [(4, .int (nI i)), (0, .ref (bd 0)), (1, .int (nI i)), (2, .int b), (3, .int v)]) hx hb dX4_sink_1 hl (by decide) rfl (fun ls hl => ?_)
  exact lp_sink S hr hlk i hi N M hN hM _ _ I ls hl
