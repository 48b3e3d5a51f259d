/-! THE RIG: its leaves, laid by wip/whole/rig1.py -/
theorem in_X0_takesKind_X0 : ∀ w ∈ u_ws RX0 TX0 4, w ∈ wsX0_takesKind := by decide +kernel
set_option maxHeartbeats 4000000 in
set_option maxRecDepth 100000 in
/-- takesKind: the bit of the kind -/
theorem c_takesKind (l : Launch) (D : va_G) (cy : Nat → ClassId) (A : Nat → Prop) (ad : Nat → Nat) (C : rC) (N : rN) (T : rT) (rn : Int32) (X : va_W) (k : Nat) (hk : k < 6) (kd : Int32) : Met l yX0_takesKind wsX0_takesKind ({ frames := 0, cells := 0, slots := 0, locals := 0 }) (va_Pc [.ref (ad (2 + k)), .int kd] (KP D cy A (rgW ad cy C N T rn X))) (va_Qi (fun (r : Int32) (_ : Unit) => r = tkB (C.1 k) kd) (fun _ => KB D cy A (rgW ad cy C N T rn X)) A) 0 0 A := by
  refine k_open (own := RX0) (maxL := 2) (ret := (some .boolean)) (by decide) rfl rfl (Nat.le_of_ble_eq_true rfl) (fun p e s m args below meth c S hr hlk I ls hl => ?_)
  obtain ⟨hx, hb, hml, hown, hts⟩ := id S
  have hl : lv_has ls 2 [(0, .ref (ad (2 + k))), (1, .int kd)] := hl
  refine lv_iload_n hx hb dX0_takesKind_0 rfl (lv_at hl 1 rfl) ?_
  refine lv_if_eq (tgt := 21) hx hb dX0_takesKind_1 (by decide) (fun c_1 => ?_) (fun c_1 => ?_)
  · refine lv_iconst (v := 0) hx hb dX0_takesKind_21 (by decide) ?_
    exact k_zret S hr hlk I (by decide) (by unfold tkB; rw [if_pos c_1]) rfl dX0_takesKind_22
  · refine lv_aload_n hx hb dX0_takesKind_4 rfl (lv_at hl 0 rfl) ?_
    refine k_get (T := TX0) (N := 4) (ci := 0) (k := 0) (q0 := (2 + k)) (v := .int (C.1 k)) S I in_X0_takesKind_X0 (rgW_lv hk) rfl (by decide) (by decide +kernel) rfl dX0_takesKind_5 ?_
    refine lv_iconst (v := 1) hx hb dX0_takesKind_8 (by decide) ?_
    refine lv_iload_n hx hb dX0_takesKind_9 rfl (lv_at hl 1 rfl) ?_
    refine lv_iconst (v := 1) hx hb dX0_takesKind_10 (by decide) ?_
    refine lv_isub hx hb dX0_takesKind_11 ?_
    refine lv_ishl hx hb dX0_takesKind_12 ?_
    refine lv_iand hx hb dX0_takesKind_13 ?_
    refine lv_if_eq (tgt := 21) hx hb dX0_takesKind_14 (by decide) (fun c_14 => ?_) (fun c_14 => ?_)
    · refine lv_iconst (v := 0) hx hb dX0_takesKind_21 (by decide) ?_
      exact k_zret S hr hlk I (by decide) (by unfold tkB; rw [if_neg c_1, if_pos c_14]) rfl dX0_takesKind_22
    · refine lv_iconst (v := 1) hx hb dX0_takesKind_17 (by decide) ?_
      refine lv_goto (tgt := 22) hx hb dX0_takesKind_18 (by decide) ?_
      exact k_zret S hr hlk I (by decide) (by unfold tkB; rw [if_neg c_1, if_neg c_14]) rfl dX0_takesKind_22
theorem in_X1_beginAnew_X1 : ∀ w ∈ u_ws RX1 TX1 2, w ∈ wsX1_beginAnew := by decide +kernel
set_option maxHeartbeats 4000000 in
set_option maxRecDepth 100000 in
/-- beginAnew: no note -/
theorem c_beginAnew (l : Launch) (D : va_G) (cy : Nat → ClassId) (A : Nat → Prop) (ad : Nat → Nat) (C : rC) (N : rN) (T : rT) (rn : Int32) (X : va_W) : Met l yX1_beginAnew wsX1_beginAnew ({ frames := 0, cells := 0, slots := 0, locals := 0 }) (va_Pc [.ref (ad 8)] (KP D cy A (rgW ad cy C N T rn X))) (va_Qv (fun (_ : Unit) => True) (fun _ => KB D cy A (rgW ad cy C (N.1, 0) T rn X)) A) 0 0 A := by
  refine k_open (own := RX1) (maxL := 1) (ret := none) (by decide) rfl rfl (Nat.le_of_ble_eq_true rfl) (fun p e s m args below meth c S hr hlk I ls hl => ?_)
  obtain ⟨hx, hb, hml, hown, hts⟩ := id S
  have hl : lv_has ls 1 [(0, .ref (ad 8))] := hl
  refine lv_aload_n hx hb dX1_beginAnew_0 rfl (lv_at hl 0 rfl) ?_
  refine lv_iconst (v := 0) hx hb dX1_beginAnew_1 (by decide) ?_
  refine k_put (T := TX1) (N := 2) (ci := 1) (k := 1) (q0 := 8) (v := .int 0) (ty := .int) (fs := [.ref (ad 9), .int (nI N.2)]) (w1 := rgW ad cy C (N.1, 0) T rn X) S I in_X1_beginAnew_X1 tyX1 tyX1_ok nmX1 rfl rfl (by decide) (by decide +kernel) rfl rfl rfl rfl (Nat.le_of_ble_eq_true rfl) rfl dX1_beginAnew_2 (fun H locs I => ?_)
  exact k_vret S hr hlk I rfl dX1_beginAnew_5
theorem in_X1_add_X1 : ∀ w ∈ u_ws RX1 TX1 2, w ∈ wsX1_add := by decide +kernel
set_option maxHeartbeats 4000000 in
set_option maxRecDepth 100000 in
/-- add: a note -/
theorem c_add (l : Launch) (D : va_G) (cy : Nat → ClassId) (A : Nat → Prop) (ad : Nat → Nat) (C : rC) (N : rN) (T : rT) (rn : Int32) (X : va_W) (hN : N.2 < 100000) (x : Int32) : Met l yX1_add wsX1_add ({ frames := 0, cells := 0, slots := 0, locals := 0 }) (va_Pc [.ref (ad 8), .int x] (KP D cy A (rgW ad cy C N T rn X))) (va_Qv (fun (_ : Unit) => True) (fun _ => KB D cy A (rgW ad cy C (nt N x) T rn X)) A) 0 0 A := by
  refine k_open (own := RX1) (maxL := 2) (ret := none) (by decide) rfl rfl (Nat.le_of_ble_eq_true rfl) (fun p e s m args below meth c S hr hlk I ls hl => ?_)
  obtain ⟨hx, hb, hml, hown, hts⟩ := id S
  have hl : lv_has ls 2 [(0, .ref (ad 8)), (1, .int x)] := hl
  refine lv_aload_n hx hb dX1_add_0 rfl (lv_at hl 0 rfl) ?_
  refine k_get (T := TX1) (N := 2) (ci := 1) (k := 1) (q0 := 8) (v := .int (nI N.2)) S I in_X1_add_X1 rfl rfl (by decide) (by decide +kernel) rfl dX1_add_1 ?_
  refine lv_aload_n hx hb dX1_add_4 rfl (lv_at hl 0 rfl) ?_
  refine k_get (T := TX1) (N := 2) (ci := 1) (k := 0) (q0 := 8) (v := .ref (ad 9)) S I in_X1_add_X1 rfl rfl (by decide) (by decide +kernel) rfl dX1_add_5 ?_
  refine va_alen hx hb I.1 I.2.2.2.1 9 1 rfl rfl (v := 64) rfl dX1_add_8 ?_
  refine lv_icmp_ge (tgt := 22) hx hb dX1_add_9 (by decide) (fun c_9 => ?_) (fun c_9 => ?_)
  · have h64 : ¬ N.2 < 64 := fun h => nI_ge h (by omega) c_9
    have e : nt N x = (N.1, N.2 + 1) := by unfold nt; rw [if_neg h64]
    refine lv_aload_n hx hb dX1_add_22 rfl (lv_at hl 0 rfl) ?_
    refine lv_dup hx hb dX1_add_23 rfl ?_
    refine k_get (T := TX1) (N := 2) (ci := 1) (k := 1) (q0 := 8) (v := .int (nI N.2)) S I in_X1_add_X1 rfl rfl (by decide) (by decide +kernel) rfl dX1_add_24 ?_
    refine lv_iconst (v := 1) hx hb dX1_add_27 (by decide) ?_
    refine lv_iadd hx hb dX1_add_28 ?_
    refine W.eq (g2 := F0 m 29 ls (.int (nI (N.2 + 1)) :: [.ref (ad 8)])) (by rw [← nI_succ]) ?_
    refine k_put (T := TX1) (N := 2) (ci := 1) (k := 1) (q0 := 8) (v := .int (nI (N.2 + 1))) (ty := .int) (fs := [.ref (ad 9), .int (nI N.2)]) (w1 := rgW ad cy C (N.1, N.2 + 1) T rn X) S I in_X1_add_X1 tyX1 tyX1_ok nmX1 rfl rfl (by decide) (by decide +kernel) rfl rfl rfl rfl (Nat.le_of_ble_eq_true rfl) rfl dX1_add_29 (fun H locs I => ?_)
    exact k_vret S hr hlk I (by rw [e]) dX1_add_32
  · have h64 : N.2 < 64 := Nat.not_le.mp fun h => c_9 (nI_le h (by omega))
    have e : nt N x = (upd N.1 N.2 x, N.2 + 1) := by unfold nt; rw [if_pos h64]
    refine lv_aload_n hx hb dX1_add_12 rfl (lv_at hl 0 rfl) ?_
    refine k_get (T := TX1) (N := 2) (ci := 1) (k := 0) (q0 := 8) (v := .ref (ad 9)) S I in_X1_add_X1 rfl rfl (by decide) (by decide +kernel) rfl dX1_add_13 ?_
    refine lv_aload_n hx hb dX1_add_16 rfl (lv_at hl 0 rfl) ?_
    refine k_get (T := TX1) (N := 2) (ci := 1) (k := 1) (q0 := 8) (v := .int (nI N.2)) S I in_X1_add_X1 rfl rfl (by decide) (by decide +kernel) rfl dX1_add_17 ?_
    refine lv_iload_n hx hb dX1_add_20 rfl (lv_at hl 1 rfl) ?_
    refine k_iast (q0 := 9) (t0 := 1) (j := N.2) (w1 := rgW ad cy C (upd N.1 N.2 x, N.2) T rn X) S I rfl rfl h64 (by decide) rfl rfl dX1_add_21 (fun H locs I => ?_)
    refine lv_aload_n hx hb dX1_add_22 rfl (lv_at hl 0 rfl) ?_
    refine lv_dup hx hb dX1_add_23 rfl ?_
    refine k_get (T := TX1) (N := 2) (ci := 1) (k := 1) (q0 := 8) (v := .int (nI (upd N.1 N.2 x, N.2).2)) S I in_X1_add_X1 rfl rfl (by decide) (by decide +kernel) rfl dX1_add_24 ?_
    refine lv_iconst (v := 1) hx hb dX1_add_27 (by decide) ?_
    refine lv_iadd hx hb dX1_add_28 ?_
    refine W.eq (g2 := F0 m 29 ls (.int (nI (N.2 + 1)) :: [.ref (ad 8)])) (by rw [← nI_succ]) ?_
    refine k_put (T := TX1) (N := 2) (ci := 1) (k := 1) (q0 := 8) (v := .int (nI (N.2 + 1))) (ty := .int) (fs := [.ref (ad 9), .int (nI (upd N.1 N.2 x, N.2).2)]) (w1 := rgW ad cy C (upd N.1 N.2 x, N.2 + 1) T rn X) S I in_X1_add_X1 tyX1 tyX1_ok nmX1 rfl rfl (by decide) (by decide +kernel) rfl rfl rfl rfl (Nat.le_of_ble_eq_true rfl) rfl dX1_add_29 (fun H locs I => ?_)
    exact k_vret S hr hlk I (by rw [e]) dX1_add_32
theorem in_X1_kept_X1 : ∀ w ∈ u_ws RX1 TX1 2, w ∈ wsX1_kept := by decide +kernel
set_option maxHeartbeats 4000000 in
set_option maxRecDepth 100000 in
/-- kept: the notes that are kept -/
theorem c_kept (l : Launch) (D : va_G) (cy : Nat → ClassId) (A : Nat → Prop) (ad : Nat → Nat) (C : rC) (N : rN) (T : rT) (rn : Int32) (X : va_W) (hN : N.2 < 100000) : Met l yX1_kept wsX1_kept ({ frames := 1, cells := 0, slots := 0, locals := 20 }) (va_Pc [.ref (ad 8)] (KP D cy A (rgW ad cy C N T rn X))) (va_Qi (fun (r : Int32) (_ : Unit) => r = if 64 < nI N.2 then 64 else nI N.2) (fun _ => KB D cy A (rgW ad cy C N T rn X)) A) 0 0 A := by
  refine k_open (own := RX1) (maxL := 1) (ret := (some .int)) (by decide) rfl rfl (Nat.le_of_ble_eq_true rfl) (fun p e s m args below meth c S hr hlk I ls hl => ?_)
  obtain ⟨hx, hb, hml, hown, hts⟩ := id S
  have hl : lv_has ls 1 [(0, .ref (ad 8))] := hl
  refine lv_aload_n hx hb dX1_kept_0 rfl (lv_at hl 0 rfl) ?_
  refine k_get (T := TX1) (N := 2) (ci := 1) (k := 1) (q0 := 8) (v := .int (nI N.2)) S I in_X1_kept_X1 rfl rfl (by decide) (by decide +kernel) rfl dX1_kept_1 ?_
  refine lv_aload_n hx hb dX1_kept_4 rfl (lv_at hl 0 rfl) ?_
  refine k_get (T := TX1) (N := 2) (ci := 1) (k := 0) (q0 := 8) (v := .ref (ad 9)) S I in_X1_kept_X1 rfl rfl (by decide) (by decide +kernel) rfl dX1_kept_5 ?_
  refine va_alen hx hb I.1 I.2.2.2.1 9 1 rfl rfl (v := 64) rfl dX1_kept_8 ?_
  refine va_mmin hx hb (hml.trans hl.1.symm) hown (hts (.methodLink RX1 19 Lib.Math.min.name) (by decide +kernel)) (hts (.static Lib.Math.min.name) (by decide +kernel)) (hts (.initialized "java/lang/Math") (by decide +kernel)) (hts (.code Lib.Math.min.name Lib.Math.min.code 2 (some .int)) (by decide +kernel)) (Nat.le_of_ble_eq_true rfl) (Nat.le_of_ble_eq_true rfl) (Nat.zero_le _) (Nat.zero_le _) dX1_kept_9 ?_
  exact k_iret S hr hlk I rfl rfl dX1_kept_12
theorem in_X2_drop_X2 : ∀ w ∈ u_ws RX2 TX2 3, w ∈ wsX2_drop := by decide +kernel
set_option maxHeartbeats 4000000 in
set_option maxRecDepth 100000 in
/-- drop: nothing thrown -/
theorem c_drop (l : Launch) (D : va_G) (cy : Nat → ClassId) (A : Nat → Prop) (ad : Nat → Nat) (C : rC) (N : rN) (T : rT) (rn : Int32) (X : va_W) : Met l yX2_drop wsX2_drop ({ frames := 0, cells := 0, slots := 0, locals := 0 }) (va_Pc [.ref (ad 10)] (KP D cy A (rgW ad cy C N T rn X))) (va_Qv (fun (_ : Unit) => True) (fun _ => KB D cy A (rgW ad cy C N (dpT T) rn X)) A) 0 0 A := by
  refine k_open (own := RX2) (maxL := 1) (ret := none) (by decide) rfl rfl (Nat.le_of_ble_eq_true rfl) (fun p e s m args below meth c S hr hlk I ls hl => ?_)
  obtain ⟨hx, hb, hml, hown, hts⟩ := id S
  have hl : lv_has ls 1 [(0, .ref (ad 10))] := hl
  refine lv_aload_n hx hb dX2_drop_0 rfl (lv_at hl 0 rfl) ?_
  refine lv_iconst (v := 0) hx hb dX2_drop_1 (by decide) ?_
  refine k_put (T := TX2) (N := 3) (ci := 2) (k := 2) (q0 := 10) (v := .int 0) (ty := .int) (fs := [.ref (ad 11), .ref (ad 12), .int (nI T.2.2)]) (w1 := rgW ad cy C N (dpT T) rn X) S I in_X2_drop_X2 tyX2 tyX2_ok nmX2 rfl rfl (by decide) (by decide +kernel) rfl rfl rfl rfl (Nat.le_of_ble_eq_true rfl) rfl dX2_drop_2 (fun H locs I => ?_)
  exact k_vret S hr hlk I rfl dX2_drop_5
theorem in_X2_wrap_X2 : ∀ w ∈ u_ws RX2 TX2 3, w ∈ wsX2_wrap := by decide +kernel
set_option maxHeartbeats 4000000 in
set_option maxRecDepth 100000 in
/-- wrap: another thing on top -/
theorem c_wrap (l : Launch) (D : va_G) (cy : Nat → ClassId) (A : Nat → Prop) (ad : Nat → Nat) (C : rC) (N : rN) (T : rT) (rn : Int32) (X : va_W) (hT : T.2.2 ≤ 7) (x y : Int32) : Met l yX2_wrap wsX2_wrap ({ frames := 0, cells := 0, slots := 0, locals := 0 }) (va_Pc [.ref (ad 10), .int x, .int y] (KP D cy A (rgW ad cy C N T rn X))) (va_Qv (fun (_ : Unit) => True) (fun _ => KB D cy A (rgW ad cy C N (wpT T x y) rn X)) A) 0 0 A := by
  refine k_open (own := RX2) (maxL := 3) (ret := none) (by decide) rfl rfl (Nat.le_of_ble_eq_true rfl) (fun p e s m args below meth c S hr hlk I ls hl => ?_)
  obtain ⟨hx, hb, hml, hown, hts⟩ := id S
  have hl : lv_has ls 3 [(0, .ref (ad 10)), (1, .int x), (2, .int y)] := hl
  refine lv_aload_n hx hb dX2_wrap_0 rfl (lv_at hl 0 rfl) ?_
  refine k_get (T := TX2) (N := 3) (ci := 2) (k := 2) (q0 := 10) (v := .int (nI T.2.2)) S I in_X2_wrap_X2 rfl rfl (by decide) (by decide +kernel) rfl dX2_wrap_1 ?_
  refine lv_bipush (v := 7) hx hb dX2_wrap_4 (by decide) ?_
  refine lv_icmp_ge (tgt := 39) hx hb dX2_wrap_6 (by decide) (fun c_6 => ?_) (fun c_6 => ?_)
  · have h7 : ¬ T.2.2 < 7 := fun h => nI_ge h (by omega) c_6
    have e : wpT T x y = T := by unfold wpT; rw [if_neg h7]
    exact k_vret S hr hlk I (by rw [e]) dX2_wrap_39
  · have h7 : T.2.2 < 7 := Nat.not_le.mp fun h => c_6 (nI_le h (by omega))
    have e : wpT T x y = (upd T.1 T.2.2 x, upd T.2.1 T.2.2 y, T.2.2 + 1) := by unfold wpT; rw [if_pos h7]
    refine lv_aload_n hx hb dX2_wrap_9 rfl (lv_at hl 0 rfl) ?_
    refine k_get (T := TX2) (N := 3) (ci := 2) (k := 0) (q0 := 10) (v := .ref (ad 11)) S I in_X2_wrap_X2 rfl rfl (by decide) (by decide +kernel) rfl dX2_wrap_10 ?_
    refine lv_aload_n hx hb dX2_wrap_13 rfl (lv_at hl 0 rfl) ?_
    refine k_get (T := TX2) (N := 3) (ci := 2) (k := 2) (q0 := 10) (v := .int (nI T.2.2)) S I in_X2_wrap_X2 rfl rfl (by decide) (by decide +kernel) rfl dX2_wrap_14 ?_
    refine lv_iload_n hx hb dX2_wrap_17 rfl (lv_at hl 1 rfl) ?_
    refine k_iast (q0 := 11) (t0 := 2) (j := T.2.2) (w1 := rgW ad cy C N (upd T.1 T.2.2 x, T.2.1, T.2.2) rn X) S I rfl rfl h7 (by decide) rfl rfl dX2_wrap_18 (fun H locs I => ?_)
    refine lv_aload_n hx hb dX2_wrap_19 rfl (lv_at hl 0 rfl) ?_
    refine k_get (T := TX2) (N := 3) (ci := 2) (k := 1) (q0 := 10) (v := .ref (ad 12)) S I in_X2_wrap_X2 rfl rfl (by decide) (by decide +kernel) rfl dX2_wrap_20 ?_
    refine lv_aload_n hx hb dX2_wrap_23 rfl (lv_at hl 0 rfl) ?_
    refine k_get (T := TX2) (N := 3) (ci := 2) (k := 2) (q0 := 10) (v := .int (nI (upd T.1 T.2.2 x, T.2.1, T.2.2).2.2)) S I in_X2_wrap_X2 rfl rfl (by decide) (by decide +kernel) rfl dX2_wrap_24 ?_
    refine lv_iload_n hx hb dX2_wrap_27 rfl (lv_at hl 2 rfl) ?_
    refine k_iast (q0 := 12) (t0 := 3) (j := (upd T.1 T.2.2 x, T.2.1, T.2.2).2.2) (w1 := rgW ad cy C N (upd T.1 T.2.2 x, upd T.2.1 T.2.2 y, T.2.2) rn X) S I rfl rfl h7 (by decide) rfl rfl dX2_wrap_28 (fun H locs I => ?_)
    refine lv_aload_n hx hb dX2_wrap_29 rfl (lv_at hl 0 rfl) ?_
    refine lv_dup hx hb dX2_wrap_30 rfl ?_
    refine k_get (T := TX2) (N := 3) (ci := 2) (k := 2) (q0 := 10) (v := .int (nI (upd T.1 T.2.2 x, upd T.2.1 T.2.2 y, T.2.2).2.2)) S I in_X2_wrap_X2 rfl rfl (by decide) (by decide +kernel) rfl dX2_wrap_31 ?_
    refine lv_iconst (v := 1) hx hb dX2_wrap_34 (by decide) ?_
    refine lv_iadd hx hb dX2_wrap_35 ?_
    refine W.eq (g2 := F0 m 36 ls (.int (nI (T.2.2 + 1)) :: [.ref (ad 10)])) (by rw [← nI_succ]) ?_
    refine k_put (T := TX2) (N := 3) (ci := 2) (k := 2) (q0 := 10) (v := .int (nI (T.2.2 + 1))) (ty := .int) (fs := [.ref (ad 11), .ref (ad 12), .int (nI (upd T.1 T.2.2 x, upd T.2.1 T.2.2 y, T.2.2).2.2)]) (w1 := rgW ad cy C N (upd T.1 T.2.2 x, upd T.2.1 T.2.2 y, T.2.2 + 1) rn X) S I in_X2_wrap_X2 tyX2 tyX2_ok nmX2 rfl rfl (by decide) (by decide +kernel) rfl rfl rfl rfl (Nat.le_of_ble_eq_true rfl) rfl dX2_wrap_36 (fun H locs I => ?_)
    exact k_vret S hr hlk I (by rw [e]) dX2_wrap_39
theorem in_X2_kind_X2 : ∀ w ∈ u_ws RX2 TX2 3, w ∈ wsX2_kind := by decide +kernel
set_option maxHeartbeats 4000000 in
set_option maxRecDepth 100000 in
/-- kind -/
theorem c_kind (l : Launch) (D : va_G) (cy : Nat → ClassId) (A : Nat → Prop) (ad : Nat → Nat) (C : rC) (N : rN) (T : rT) (rn : Int32) (X : va_W) (hT : T.2.2 ≤ 7) : Met l yX2_kind wsX2_kind ({ frames := 0, cells := 0, slots := 0, locals := 0 }) (va_Pc [.ref (ad 10)] (KP D cy A (rgW ad cy C N T rn X))) (va_Qi (fun (r : Int32) (_ : Unit) => r = kdT T) (fun _ => KB D cy A (rgW ad cy C N T rn X)) A) 0 0 A := by
  refine k_open (own := RX2) (maxL := 1) (ret := (some .int)) (by decide) rfl rfl (Nat.le_of_ble_eq_true rfl) (fun p e s m args below meth c S hr hlk I ls hl => ?_)
  obtain ⟨hx, hb, hml, hown, hts⟩ := id S
  have hl : lv_has ls 1 [(0, .ref (ad 10))] := hl
  refine lv_aload_n hx hb dX2_kind_0 rfl (lv_at hl 0 rfl) ?_
  refine k_get (T := TX2) (N := 3) (ci := 2) (k := 2) (q0 := 10) (v := .int (nI T.2.2)) S I in_X2_kind_X2 rfl rfl (by decide) (by decide +kernel) rfl dX2_kind_1 ?_
  refine lv_if_le (tgt := 21) hx hb dX2_kind_4 (by decide) (fun c_4 => ?_) (fun c_4 => ?_)
  · have h0 : ¬ 0 < T.2.2 := fun h => nI_nle h (by omega) c_4
    refine lv_iconst (v := 0) hx hb dX2_kind_21 (by decide) ?_
    exact k_iret S hr hlk I (by unfold kdT; rw [if_neg h0]) rfl dX2_kind_22
  · have h0 : 0 < T.2.2 := Nat.pos_of_ne_zero fun h => c_4 (by rw [h, nI_0]; decide)
    have e1 : nI T.2.2 - 1 = nI (T.2.2 - 1) := by rw [show T.2.2 = (T.2.2 - 1) + 1 by omega, nI_pred]; rfl
    refine lv_aload_n hx hb dX2_kind_7 rfl (lv_at hl 0 rfl) ?_
    refine k_get (T := TX2) (N := 3) (ci := 2) (k := 0) (q0 := 10) (v := .ref (ad 11)) S I in_X2_kind_X2 rfl rfl (by decide) (by decide +kernel) rfl dX2_kind_8 ?_
    refine lv_aload_n hx hb dX2_kind_11 rfl (lv_at hl 0 rfl) ?_
    refine k_get (T := TX2) (N := 3) (ci := 2) (k := 2) (q0 := 10) (v := .int (nI T.2.2)) S I in_X2_kind_X2 rfl rfl (by decide) (by decide +kernel) rfl dX2_kind_12 ?_
    refine lv_iconst (v := 1) hx hb dX2_kind_15 (by decide) ?_
    refine lv_isub hx hb dX2_kind_16 ?_
    refine W.eq (g2 := F0 m 17 ls (.int (nI (T.2.2 - 1)) :: [.ref (ad 11)])) (by rw [e1]) ?_
    refine k_iald (q0 := 11) (t0 := 2) (j := (T.2.2 - 1)) (x := T.1 (T.2.2 - 1)) S I rfl rfl (by omega) (by decide) rfl rfl dX2_kind_17 ?_
    refine lv_goto (tgt := 22) hx hb dX2_kind_18 (by decide) ?_
    exact k_iret S hr hlk I (by unfold kdT; rw [if_pos h0]) rfl dX2_kind_22
theorem in_X2_number_X2 : ∀ w ∈ u_ws RX2 TX2 3, w ∈ wsX2_number := by decide +kernel
set_option maxHeartbeats 4000000 in
set_option maxRecDepth 100000 in
/-- number -/
theorem c_number (l : Launch) (D : va_G) (cy : Nat → ClassId) (A : Nat → Prop) (ad : Nat → Nat) (C : rC) (N : rN) (T : rT) (rn : Int32) (X : va_W) (hT : T.2.2 ≤ 7) : Met l yX2_number wsX2_number ({ frames := 0, cells := 0, slots := 0, locals := 0 }) (va_Pc [.ref (ad 10)] (KP D cy A (rgW ad cy C N T rn X))) (va_Qi (fun (r : Int32) (_ : Unit) => r = nbT T) (fun _ => KB D cy A (rgW ad cy C N T rn X)) A) 0 0 A := by
  refine k_open (own := RX2) (maxL := 1) (ret := (some .int)) (by decide) rfl rfl (Nat.le_of_ble_eq_true rfl) (fun p e s m args below meth c S hr hlk I ls hl => ?_)
  obtain ⟨hx, hb, hml, hown, hts⟩ := id S
  have hl : lv_has ls 1 [(0, .ref (ad 10))] := hl
  refine lv_aload_n hx hb dX2_number_0 rfl (lv_at hl 0 rfl) ?_
  refine k_get (T := TX2) (N := 3) (ci := 2) (k := 2) (q0 := 10) (v := .int (nI T.2.2)) S I in_X2_number_X2 rfl rfl (by decide) (by decide +kernel) rfl dX2_number_1 ?_
  refine lv_if_le (tgt := 21) hx hb dX2_number_4 (by decide) (fun c_4 => ?_) (fun c_4 => ?_)
  · have h0 : ¬ 0 < T.2.2 := fun h => nI_nle h (by omega) c_4
    refine lv_iconst (v := 0) hx hb dX2_number_21 (by decide) ?_
    exact k_iret S hr hlk I (by unfold nbT; rw [if_neg h0]) rfl dX2_number_22
  · have h0 : 0 < T.2.2 := Nat.pos_of_ne_zero fun h => c_4 (by rw [h, nI_0]; decide)
    have e1 : nI T.2.2 - 1 = nI (T.2.2 - 1) := by rw [show T.2.2 = (T.2.2 - 1) + 1 by omega, nI_pred]; rfl
    refine lv_aload_n hx hb dX2_number_7 rfl (lv_at hl 0 rfl) ?_
    refine k_get (T := TX2) (N := 3) (ci := 2) (k := 1) (q0 := 10) (v := .ref (ad 12)) S I in_X2_number_X2 rfl rfl (by decide) (by decide +kernel) rfl dX2_number_8 ?_
    refine lv_aload_n hx hb dX2_number_11 rfl (lv_at hl 0 rfl) ?_
    refine k_get (T := TX2) (N := 3) (ci := 2) (k := 2) (q0 := 10) (v := .int (nI T.2.2)) S I in_X2_number_X2 rfl rfl (by decide) (by decide +kernel) rfl dX2_number_12 ?_
    refine lv_iconst (v := 1) hx hb dX2_number_15 (by decide) ?_
    refine lv_isub hx hb dX2_number_16 ?_
    refine W.eq (g2 := F0 m 17 ls (.int (nI (T.2.2 - 1)) :: [.ref (ad 12)])) (by rw [e1]) ?_
    refine k_iald (q0 := 12) (t0 := 3) (j := (T.2.2 - 1)) (x := T.2.1 (T.2.2 - 1)) S I rfl rfl (by omega) (by decide) rfl rfl dX2_number_17 ?_
    refine lv_goto (tgt := 22) hx hb dX2_number_18 (by decide) ?_
    exact k_iret S hr hlk I (by unfold nbT; rw [if_pos h0]) rfl dX2_number_22
theorem in_X2_causes_X2 : ∀ w ∈ u_ws RX2 TX2 3, w ∈ wsX2_causes := by decide +kernel
set_option maxHeartbeats 4000000 in
set_option maxRecDepth 100000 in
/-- causes -/
theorem c_causes (l : Launch) (D : va_G) (cy : Nat → ClassId) (A : Nat → Prop) (ad : Nat → Nat) (C : rC) (N : rN) (T : rT) (rn : Int32) (X : va_W) (hT : T.2.2 ≤ 7) : Met l yX2_causes wsX2_causes ({ frames := 0, cells := 0, slots := 0, locals := 0 }) (va_Pc [.ref (ad 10)] (KP D cy A (rgW ad cy C N T rn X))) (va_Qi (fun (r : Int32) (_ : Unit) => r = csT T) (fun _ => KB D cy A (rgW ad cy C N T rn X)) A) 0 0 A := by
  refine k_open (own := RX2) (maxL := 1) (ret := (some .int)) (by decide) rfl rfl (Nat.le_of_ble_eq_true rfl) (fun p e s m args below meth c S hr hlk I ls hl => ?_)
  obtain ⟨hx, hb, hml, hown, hts⟩ := id S
  have hl : lv_has ls 1 [(0, .ref (ad 10))] := hl
  refine lv_aload_n hx hb dX2_causes_0 rfl (lv_at hl 0 rfl) ?_
  refine k_get (T := TX2) (N := 3) (ci := 2) (k := 2) (q0 := 10) (v := .int (nI T.2.2)) S I in_X2_causes_X2 rfl rfl (by decide) (by decide +kernel) rfl dX2_causes_1 ?_
  refine lv_if_le (tgt := 16) hx hb dX2_causes_4 (by decide) (fun c_4 => ?_) (fun c_4 => ?_)
  · have h0 : ¬ 0 < T.2.2 := fun h => nI_nle h (by omega) c_4
    refine lv_iconst (v := 0) hx hb dX2_causes_16 (by decide) ?_
    exact k_iret S hr hlk I (by unfold csT; rw [if_neg h0]) rfl dX2_causes_17
  · have h0 : 0 < T.2.2 := Nat.pos_of_ne_zero fun h => c_4 (by rw [h, nI_0]; decide)
    have e1 : nI T.2.2 - 1 = nI (T.2.2 - 1) := by rw [show T.2.2 = (T.2.2 - 1) + 1 by omega, nI_pred]; rfl
    refine lv_aload_n hx hb dX2_causes_7 rfl (lv_at hl 0 rfl) ?_
    refine k_get (T := TX2) (N := 3) (ci := 2) (k := 2) (q0 := 10) (v := .int (nI T.2.2)) S I in_X2_causes_X2 rfl rfl (by decide) (by decide +kernel) rfl dX2_causes_8 ?_
    refine lv_iconst (v := 1) hx hb dX2_causes_11 (by decide) ?_
    refine lv_isub hx hb dX2_causes_12 ?_
    refine W.eq (g2 := F0 m 13 ls (.int (nI (T.2.2 - 1)) :: [])) (by rw [e1]) ?_
    refine lv_goto (tgt := 17) hx hb dX2_causes_13 (by decide) ?_
    exact k_iret S hr hlk I (by unfold csT; rw [if_pos h0]) rfl dX2_causes_17
theorem in_X2_lastCauseKind_X2 : ∀ w ∈ u_ws RX2 TX2 3, w ∈ wsX2_lastCauseKind := by decide +kernel
set_option maxHeartbeats 4000000 in
set_option maxRecDepth 100000 in
/-- lastCauseKind -/
theorem c_lastCauseKind (l : Launch) (D : va_G) (cy : Nat → ClassId) (A : Nat → Prop) (ad : Nat → Nat) (C : rC) (N : rN) (T : rT) (rn : Int32) (X : va_W) (hT : T.2.2 ≤ 7) : Met l yX2_lastCauseKind wsX2_lastCauseKind ({ frames := 1, cells := 0, slots := 0, locals := 30 }) (va_Pc [.ref (ad 10)] (KP D cy A (rgW ad cy C N T rn X))) (va_Qi (fun (r : Int32) (_ : Unit) => r = lkT T) (fun _ => KB D cy A (rgW ad cy C N T rn X)) A) 0 0 A := by
  refine k_open (own := RX2) (maxL := 1) (ret := (some .int)) (by decide) rfl rfl (Nat.le_of_ble_eq_true rfl) (fun p e s m args below meth c S hr hlk I ls hl => ?_)
  obtain ⟨hx, hb, hml, hown, hts⟩ := id S
  have hl : lv_has ls 1 [(0, .ref (ad 10))] := hl
  refine lv_aload_n hx hb dX2_lastCauseKind_0 rfl (lv_at hl 0 rfl) ?_
  refine k_Vi (q0 := 10) (As := []) (rest := []) (w1 := rgW ad cy C N T rn X) (G := csT T) S I (c_causes l D cy A ad C N T rn X hT) (cwV 0 hts gX2_lastCauseKind_X2_causes rfl rfl rfl (by decide +kernel) ⟨Nat.le_of_ble_eq_true rfl, Nat.le_of_ble_eq_true rfl⟩) rfl rfl rfl rfl hl.1 rfl (Nat.le_of_ble_eq_true rfl) dX2_lastCauseKind_1 ⟨Nat.zero_le _, Nat.zero_le _⟩ (fun H locs I => ?_)
  refine lv_if_le (tgt := 16) hx hb dX2_lastCauseKind_4 (by decide) (fun c_4 => ?_) (fun c_4 => ?_)
  · have h1 : ¬ 1 < T.2.2 := fun h => by
      have e : csT T = nI (T.2.2 - 1) := by unfold csT; rw [if_pos (by omega)]
      rw [e] at c_4
      exact nI_nle (n := T.2.2 - 1) (by omega) (by omega) c_4
    refine lv_iconst (v := 0) hx hb dX2_lastCauseKind_16 (by decide) ?_
    exact k_iret S hr hlk I (by unfold lkT; rw [if_neg h1]) rfl dX2_lastCauseKind_17
  · have h1 : 1 < T.2.2 := Nat.not_le.mp fun h => c_4 (by
      have e : csT T = 0 := by
        unfold csT
        split
        · rw [show T.2.2 - 1 = 0 by omega, nI_0]
        · rfl
      rw [e]; decide)
    refine lv_aload_n hx hb dX2_lastCauseKind_7 rfl (lv_at hl 0 rfl) ?_
    refine k_get (T := TX2) (N := 3) (ci := 2) (k := 0) (q0 := 10) (v := .ref (ad 11)) S I in_X2_lastCauseKind_X2 rfl rfl (by decide) (by decide +kernel) rfl dX2_lastCauseKind_8 ?_
    refine lv_iconst (v := 0) hx hb dX2_lastCauseKind_11 (by decide) ?_
    refine k_iald (q0 := 11) (t0 := 2) (j := 0) (x := T.1 0) S I rfl rfl (by decide) (by decide) (nI_0.symm) rfl dX2_lastCauseKind_12 ?_
    refine lv_goto (tgt := 17) hx hb dX2_lastCauseKind_13 (by decide) ?_
    exact k_iret S hr hlk I (by unfold lkT; rw [if_pos h1]) rfl dX2_lastCauseKind_17
theorem in_X2_lastCauseNumber_X2 : ∀ w ∈ u_ws RX2 TX2 3, w ∈ wsX2_lastCauseNumber := by decide +kernel
set_option maxHeartbeats 4000000 in
set_option maxRecDepth 100000 in
/-- lastCauseNumber -/
theorem c_lastCauseNumber (l : Launch) (D : va_G) (cy : Nat → ClassId) (A : Nat → Prop) (ad : Nat → Nat) (C : rC) (N : rN) (T : rT) (rn : Int32) (X : va_W) (hT : T.2.2 ≤ 7) : Met l yX2_lastCauseNumber wsX2_lastCauseNumber ({ frames := 1, cells := 0, slots := 0, locals := 30 }) (va_Pc [.ref (ad 10)] (KP D cy A (rgW ad cy C N T rn X))) (va_Qi (fun (r : Int32) (_ : Unit) => r = lnT T) (fun _ => KB D cy A (rgW ad cy C N T rn X)) A) 0 0 A := by
  refine k_open (own := RX2) (maxL := 1) (ret := (some .int)) (by decide) rfl rfl (Nat.le_of_ble_eq_true rfl) (fun p e s m args below meth c S hr hlk I ls hl => ?_)
  obtain ⟨hx, hb, hml, hown, hts⟩ := id S
  have hl : lv_has ls 1 [(0, .ref (ad 10))] := hl
  refine lv_aload_n hx hb dX2_lastCauseNumber_0 rfl (lv_at hl 0 rfl) ?_
  refine k_Vi (q0 := 10) (As := []) (rest := []) (w1 := rgW ad cy C N T rn X) (G := csT T) S I (c_causes l D cy A ad C N T rn X hT) (cwV 0 hts gX2_lastCauseNumber_X2_causes rfl rfl rfl (by decide +kernel) ⟨Nat.le_of_ble_eq_true rfl, Nat.le_of_ble_eq_true rfl⟩) rfl rfl rfl rfl hl.1 rfl (Nat.le_of_ble_eq_true rfl) dX2_lastCauseNumber_1 ⟨Nat.zero_le _, Nat.zero_le _⟩ (fun H locs I => ?_)
  refine lv_if_le (tgt := 16) hx hb dX2_lastCauseNumber_4 (by decide) (fun c_4 => ?_) (fun c_4 => ?_)
  · have h1 : ¬ 1 < T.2.2 := fun h => by
      have e : csT T = nI (T.2.2 - 1) := by unfold csT; rw [if_pos (by omega)]
      rw [e] at c_4
      exact nI_nle (n := T.2.2 - 1) (by omega) (by omega) c_4
    refine lv_iconst (v := 0) hx hb dX2_lastCauseNumber_16 (by decide) ?_
    exact k_iret S hr hlk I (by unfold lnT; rw [if_neg h1]) rfl dX2_lastCauseNumber_17
  · have h1 : 1 < T.2.2 := Nat.not_le.mp fun h => c_4 (by
      have e : csT T = 0 := by
        unfold csT
        split
        · rw [show T.2.2 - 1 = 0 by omega, nI_0]
        · rfl
      rw [e]; decide)
    refine lv_aload_n hx hb dX2_lastCauseNumber_7 rfl (lv_at hl 0 rfl) ?_
    refine k_get (T := TX2) (N := 3) (ci := 2) (k := 1) (q0 := 10) (v := .ref (ad 12)) S I in_X2_lastCauseNumber_X2 rfl rfl (by decide) (by decide +kernel) rfl dX2_lastCauseNumber_8 ?_
    refine lv_iconst (v := 0) hx hb dX2_lastCauseNumber_11 (by decide) ?_
    refine k_iald (q0 := 12) (t0 := 3) (j := 0) (x := T.2.1 0) S I rfl rfl (by decide) (by decide) (nI_0.symm) rfl dX2_lastCauseNumber_12 ?_
    refine lv_goto (tgt := 17) hx hb dX2_lastCauseNumber_13 (by decide) ?_
    exact k_iret S hr hlk I (by unfold lnT; rw [if_pos h1]) rfl dX2_lastCauseNumber_17
set_option maxHeartbeats 4000000 in
set_option maxRecDepth 100000 in
/-- isLevel -/
theorem c_isLevel (l : Launch) (D : va_G) (cy : Nat → ClassId) (A : Nat → Prop) (ad : Nat → Nat) (C : rC) (N : rN) (T : rT) (rn : Int32) (X : va_W) (x : Int32) : Met l yX3_isLevel wsX3_isLevel ({ frames := 0, cells := 0, slots := 0, locals := 0 }) (va_Pc [.int x] (KP D cy A (rgW ad cy C N T rn X))) (va_Qi (fun (r : Int32) (_ : Unit) => r = isL x) (fun _ => KB D cy A (rgW ad cy C N T rn X)) A) 0 0 A := by
  refine k_open (own := RX3) (maxL := 1) (ret := (some .boolean)) (by decide) rfl rfl (Nat.le_of_ble_eq_true rfl) (fun p e s m args below meth c S hr hlk I ls hl => ?_)
  obtain ⟨hx, hb, hml, hown, hts⟩ := id S
  have hl : lv_has ls 1 [(0, .int x)] := hl
  refine lv_iload_n hx hb dX3_isLevel_0 rfl (lv_at hl 0 rfl) ?_
  refine lv_if_lt (tgt := 14) hx hb dX3_isLevel_1 (by decide) (fun c_1 => ?_) (fun c_1 => ?_)
  · refine lv_iconst (v := 0) hx hb dX3_isLevel_14 (by decide) ?_
    exact k_zret S hr hlk I (by decide) (by unfold isL; rw [if_pos c_1]) rfl dX3_isLevel_15
  · refine lv_iload_n hx hb dX3_isLevel_4 rfl (lv_at hl 0 rfl) ?_
    refine lv_bipush (v := 6) hx hb dX3_isLevel_5 (by decide) ?_
    refine lv_icmp_ge (tgt := 14) hx hb dX3_isLevel_7 (by decide) (fun c_7 => ?_) (fun c_7 => ?_)
    · refine lv_iconst (v := 0) hx hb dX3_isLevel_14 (by decide) ?_
      exact k_zret S hr hlk I (by decide) (by unfold isL; rw [if_neg c_1, if_pos c_7]) rfl dX3_isLevel_15
    · refine lv_iconst (v := 1) hx hb dX3_isLevel_10 (by decide) ?_
      refine lv_goto (tgt := 15) hx hb dX3_isLevel_11 (by decide) ?_
      exact k_zret S hr hlk I (by decide) (by unfold isL; rw [if_neg c_1, if_neg c_7]) rfl dX3_isLevel_15
theorem in_X3_throwNew_X3 : ∀ w ∈ u_ws RX3 TX3 4, w ∈ wsX3_throwNew := by decide +kernel
set_option maxHeartbeats 4000000 in
set_option maxRecDepth 100000 in
/-- throwNew -/
theorem c_throwNew (l : Launch) (D : va_G) (cy : Nat → ClassId) (A : Nat → Prop) (ad : Nat → Nat) (C : rC) (N : rN) (T : rT) (rn : Int32) (X : va_W) (x y : Int32) : Met l yX3_throwNew wsX3_throwNew ({ frames := 1, cells := 0, slots := 0, locals := 30 }) (va_Pc [.ref (ad 0), .int x, .int y] (KP D cy A (rgW ad cy C N T rn X))) (va_Ql (fun (r : Int64) (_ : Unit) => r = 0) (fun _ => KB D cy A (rgW ad cy C N (tnT T x y) rn X)) A) 0 0 A := by
  refine k_open (own := RX3) (maxL := 3) (ret := (some .long)) (by decide) rfl rfl (Nat.le_of_ble_eq_true rfl) (fun p e s m args below meth c S hr hlk I ls hl => ?_)
  obtain ⟨hx, hb, hml, hown, hts⟩ := id S
  have hl : lv_has ls 3 [(0, .ref (ad 0)), (1, .int x), (2, .int y)] := hl
  refine lv_aload_n hx hb dX3_throwNew_0 rfl (lv_at hl 0 rfl) ?_
  refine k_get (T := TX3) (N := 4) (ci := 3) (k := 2) (q0 := 0) (v := .ref (ad 10)) S I in_X3_throwNew_X3 rfl rfl (by decide) (by decide +kernel) rfl dX3_throwNew_1 ?_
  refine k_Vv (q0 := 10) (As := []) (rest := []) (w1 := rgW ad cy C N (dpT T) rn X) S I (c_drop l D cy A ad C N T rn X) (cwV 0 hts gX3_throwNew_X2_drop rfl rfl rfl (by decide +kernel) ⟨Nat.le_of_ble_eq_true rfl, Nat.le_of_ble_eq_true rfl⟩) rfl rfl rfl rfl hl.1 rfl (Nat.le_of_ble_eq_true rfl) dX3_throwNew_4 ⟨Nat.zero_le _, Nat.zero_le _⟩ (fun H locs I => ?_)
  refine lv_aload_n hx hb dX3_throwNew_7 rfl (lv_at hl 0 rfl) ?_
  refine k_get (T := TX3) (N := 4) (ci := 3) (k := 2) (q0 := 0) (v := .ref (ad 10)) S I in_X3_throwNew_X3 rfl rfl (by decide) (by decide +kernel) rfl dX3_throwNew_8 ?_
  refine lv_iload_n hx hb dX3_throwNew_11 rfl (lv_at hl 1 rfl) ?_
  refine lv_iload_n hx hb dX3_throwNew_12 rfl (lv_at hl 2 rfl) ?_
  refine k_Vv (q0 := 10) (As := [.int x, .int y]) (rest := []) (w1 := rgW ad cy C N (tnT T x y) rn X) S I (c_wrap l D cy A ad C N (dpT T) rn X (Nat.zero_le _) x y) (cwV 2 hts gX3_throwNew_X2_wrap rfl rfl rfl (by decide +kernel) ⟨Nat.le_of_ble_eq_true rfl, Nat.le_of_ble_eq_true rfl⟩) rfl rfl rfl rfl hl.1 rfl (Nat.le_of_ble_eq_true rfl) dX3_throwNew_13 ⟨Nat.zero_le _, Nat.zero_le _⟩ (fun H locs I => ?_)
  refine lv_lconst (v := 0) hx hb dX3_throwNew_16 (by decide) ?_
  exact k_lret S hr hlk I rfl rfl dX3_throwNew_17
theorem in_X3_throwFromWithin_X3 : ∀ w ∈ u_ws RX3 TX3 4, w ∈ wsX3_throwFromWithin := by decide +kernel
set_option maxHeartbeats 4000000 in
set_option maxRecDepth 100000 in
/-- throwFromWithin -/
theorem c_throwFromWithin (l : Launch) (D : va_G) (cy : Nat → ClassId) (A : Nat → Prop) (ad : Nat → Nat) (C : rC) (N : rN) (T : rT) (rn : Int32) (X : va_W) (hN : N.2 < 99990) (v : Int32) : Met l yX3_throwFromWithin wsX3_throwFromWithin ({ frames := 2, cells := 0, slots := 0, locals := 60 }) (va_Pc [.ref (ad 0), .int v] (KP D cy A (rgW ad cy C N T rn X))) (va_Ql (fun (r : Int64) (_ : Unit) => r = 0) (fun _ => KB D cy A (rgW ad cy C (nt (nt (nt N (dpN v)) (dpN v)) (dpN v)) (tnT T 1 v) rn X)) A) 0 0 A := by
  refine k_open (own := RX3) (maxL := 3) (ret := (some .long)) (by decide) rfl rfl (Nat.le_of_ble_eq_true rfl) (fun p e s m args below meth c S hr hlk I ls hl => ?_)
  obtain ⟨hx, hb, hml, hown, hts⟩ := id S
  have hl : lv_has ls 3 [(0, .ref (ad 0)), (1, .int v)] := hl
  refine lv_iconst (v := 0) hx hb dX3_throwFromWithin_0 (by decide) ?_
  refine lv_istore_n (lv' := [(2, .int 0), (0, .ref (ad 0)), (1, .int v)]) hx hb dX3_throwFromWithin_1 rfl hl (by decide) rfl (fun ls hl => ?_)
  refine lv_iload_n hx hb dX3_throwFromWithin_2 rfl (lv_at hl 0 rfl) ?_
  refine lv_iconst (v := 3) hx hb dX3_throwFromWithin_3 (by decide) ?_
  refine lv_icmp_ge (tgt := 28) hx hb dX3_throwFromWithin_4 (by decide) (fun c_4 => ?_) (fun c_4 => ?_)
  · exact absurd c_4 (by decide)
  · refine lv_aload_n hx hb dX3_throwFromWithin_7 rfl (lv_at hl 1 rfl) ?_
    refine k_get (T := TX3) (N := 4) (ci := 3) (k := 1) (q0 := 0) (v := .ref (ad 8)) S I in_X3_throwFromWithin_X3 rfl rfl (by decide) (by decide +kernel) rfl dX3_throwFromWithin_8 ?_
    refine lv_sipush (v := 700) hx hb dX3_throwFromWithin_11 (by decide) ?_
    refine lv_iload_n hx hb dX3_throwFromWithin_14 rfl (lv_at hl 2 rfl) ?_
    refine lv_bipush (v := 100) hx hb dX3_throwFromWithin_15 (by decide) ?_
    refine lv_irem hx hb dX3_throwFromWithin_17 (by decide) ?_
    refine lv_iadd hx hb dX3_throwFromWithin_18 ?_
    refine k_Vv (q0 := 8) (As := [.int (700 + (v - v / 100 * 100))]) (rest := []) (w1 := rgW ad cy C (nt N (dpN v)) T rn X) S I (c_add l D cy A ad C N T rn X (by omega) (dpN v)) (cwV 1 hts gX3_throwFromWithin_X1_add rfl rfl rfl (by decide +kernel) ⟨Nat.le_of_ble_eq_true rfl, Nat.le_of_ble_eq_true rfl⟩) rfl rfl rfl rfl hl.1 rfl (Nat.le_of_ble_eq_true rfl) dX3_throwFromWithin_19 ⟨Nat.zero_le _, Nat.zero_le _⟩ (fun H locs I => ?_)
    refine lv_iinc (v := (1)) (lv' := [(2, .int (1)), (0, .ref (ad 0)), (1, .int v)]) hx hb dX3_throwFromWithin_22 hl (k := 0) rfl (by decide) (by decide) rfl (fun ls hl => ?_)
    refine lv_goto (tgt := 2) hx hb dX3_throwFromWithin_25 (by decide) ?_
    refine lv_iload_n hx hb dX3_throwFromWithin_2 rfl (lv_at hl 0 rfl) ?_
    refine lv_iconst (v := 3) hx hb dX3_throwFromWithin_3 (by decide) ?_
    refine lv_icmp_ge (tgt := 28) hx hb dX3_throwFromWithin_4 (by decide) (fun c_4 => ?_) (fun c_4 => ?_)
    · exact absurd c_4 (by decide)
    · refine lv_aload_n hx hb dX3_throwFromWithin_7 rfl (lv_at hl 1 rfl) ?_
      refine k_get (T := TX3) (N := 4) (ci := 3) (k := 1) (q0 := 0) (v := .ref (ad 8)) S I in_X3_throwFromWithin_X3 rfl rfl (by decide) (by decide +kernel) rfl dX3_throwFromWithin_8 ?_
      refine lv_sipush (v := 700) hx hb dX3_throwFromWithin_11 (by decide) ?_
      refine lv_iload_n hx hb dX3_throwFromWithin_14 rfl (lv_at hl 2 rfl) ?_
      refine lv_bipush (v := 100) hx hb dX3_throwFromWithin_15 (by decide) ?_
      refine lv_irem hx hb dX3_throwFromWithin_17 (by decide) ?_
      refine lv_iadd hx hb dX3_throwFromWithin_18 ?_
      refine k_Vv (q0 := 8) (As := [.int (700 + (v - v / 100 * 100))]) (rest := []) (w1 := rgW ad cy C (nt (nt N (dpN v)) (dpN v)) T rn X) S I (c_add l D cy A ad C (nt N (dpN v)) T rn X (by rw [nt_2]; omega) (dpN v)) (cwV 1 hts gX3_throwFromWithin_X1_add rfl rfl rfl (by decide +kernel) ⟨Nat.le_of_ble_eq_true rfl, Nat.le_of_ble_eq_true rfl⟩) rfl rfl rfl rfl hl.1 rfl (Nat.le_of_ble_eq_true rfl) dX3_throwFromWithin_19 ⟨Nat.zero_le _, Nat.zero_le _⟩ (fun H locs I => ?_)
      refine lv_iinc (v := (2)) (lv' := [(2, .int (2)), (0, .ref (ad 0)), (1, .int v)]) hx hb dX3_throwFromWithin_22 hl (k := 0) rfl (by decide) (by decide) rfl (fun ls hl => ?_)
      refine lv_goto (tgt := 2) hx hb dX3_throwFromWithin_25 (by decide) ?_
      refine lv_iload_n hx hb dX3_throwFromWithin_2 rfl (lv_at hl 0 rfl) ?_
      refine lv_iconst (v := 3) hx hb dX3_throwFromWithin_3 (by decide) ?_
      refine lv_icmp_ge (tgt := 28) hx hb dX3_throwFromWithin_4 (by decide) (fun c_4 => ?_) (fun c_4 => ?_)
      · exact absurd c_4 (by decide)
      · refine lv_aload_n hx hb dX3_throwFromWithin_7 rfl (lv_at hl 1 rfl) ?_
        refine k_get (T := TX3) (N := 4) (ci := 3) (k := 1) (q0 := 0) (v := .ref (ad 8)) S I in_X3_throwFromWithin_X3 rfl rfl (by decide) (by decide +kernel) rfl dX3_throwFromWithin_8 ?_
        refine lv_sipush (v := 700) hx hb dX3_throwFromWithin_11 (by decide) ?_
        refine lv_iload_n hx hb dX3_throwFromWithin_14 rfl (lv_at hl 2 rfl) ?_
        refine lv_bipush (v := 100) hx hb dX3_throwFromWithin_15 (by decide) ?_
        refine lv_irem hx hb dX3_throwFromWithin_17 (by decide) ?_
        refine lv_iadd hx hb dX3_throwFromWithin_18 ?_
        refine k_Vv (q0 := 8) (As := [.int (700 + (v - v / 100 * 100))]) (rest := []) (w1 := rgW ad cy C (nt (nt (nt N (dpN v)) (dpN v)) (dpN v)) T rn X) S I (c_add l D cy A ad C (nt (nt N (dpN v)) (dpN v)) T rn X (by rw [nt_2, nt_2]; omega) (dpN v)) (cwV 1 hts gX3_throwFromWithin_X1_add rfl rfl rfl (by decide +kernel) ⟨Nat.le_of_ble_eq_true rfl, Nat.le_of_ble_eq_true rfl⟩) rfl rfl rfl rfl hl.1 rfl (Nat.le_of_ble_eq_true rfl) dX3_throwFromWithin_19 ⟨Nat.zero_le _, Nat.zero_le _⟩ (fun H locs I => ?_)
        refine lv_iinc (v := (3)) (lv' := [(2, .int (3)), (0, .ref (ad 0)), (1, .int v)]) hx hb dX3_throwFromWithin_22 hl (k := 0) rfl (by decide) (by decide) rfl (fun ls hl => ?_)
        refine lv_goto (tgt := 2) hx hb dX3_throwFromWithin_25 (by decide) ?_
        refine lv_iload_n hx hb dX3_throwFromWithin_2 rfl (lv_at hl 0 rfl) ?_
        refine lv_iconst (v := 3) hx hb dX3_throwFromWithin_3 (by decide) ?_
        refine lv_icmp_ge (tgt := 28) hx hb dX3_throwFromWithin_4 (by decide) (fun c_4 => ?_) (fun c_4 => ?_)
        · refine lv_aload_n hx hb dX3_throwFromWithin_28 rfl (lv_at hl 1 rfl) ?_
          refine lv_iconst (v := 1) hx hb dX3_throwFromWithin_29 (by decide) ?_
          refine lv_iload_n hx hb dX3_throwFromWithin_30 rfl (lv_at hl 2 rfl) ?_
          refine k_Vl (q0 := 0) (As := [.int 1, .int v]) (rest := []) (w1 := rgW ad cy C (nt (nt (nt N (dpN v)) (dpN v)) (dpN v)) (tnT T 1 v) rn X) (G := 0) S I (c_throwNew l D cy A ad C (nt (nt (nt N (dpN v)) (dpN v)) (dpN v)) T rn X 1 v) (cwV 2 hts gX3_throwFromWithin_X3_throwNew rfl rfl rfl (by decide +kernel) ⟨Nat.le_of_ble_eq_true rfl, Nat.le_of_ble_eq_true rfl⟩) rfl rfl rfl rfl hl.1 rfl (Nat.le_of_ble_eq_true rfl) dX3_throwFromWithin_31 ⟨Nat.zero_le _, Nat.zero_le _⟩ (fun H locs I => ?_)
          exact k_lret S hr hlk I rfl rfl dX3_throwFromWithin_34
        · exact absurd (by decide) c_4
set_option maxHeartbeats 4000000 in
set_option maxRecDepth 100000 in
/-- reachBottom -/
theorem c_reachBottom (l : Launch) (D : va_G) (cy : Nat → ClassId) (A : Nat → Prop) (ad : Nat → Nat) (C : rC) (N : rN) (T : rT) (rn : Int32) (X : va_W) (hN : N.2 < 99990) (b v : Int32) : Met l yX3_reachBottom wsX3_reachBottom ({ frames := 3, cells := 0, slots := 0, locals := 100 }) (va_Pc [.ref (ad 0), .int b, .int v] (KP D cy A (rgW ad cy C N T rn X))) (va_Ql (fun (r : Int64) (_ : Unit) => r = (rbF b v (N, T)).2) (fun _ => KB D cy A (rgW ad cy C ((rbF b v (N, T)).1.1) ((rbF b v (N, T)).1.2) rn X)) A) 0 0 A := by
  refine k_open (own := RX3) (maxL := 3) (ret := (some .long)) (by decide) rfl rfl (Nat.le_of_ble_eq_true rfl) (fun p e s m args below meth c S hr hlk I ls hl => ?_)
  obtain ⟨hx, hb, hml, hown, hts⟩ := id S
  have hl : lv_has ls 3 [(0, .ref (ad 0)), (1, .int b), (2, .int v)] := hl
  refine lv_iload_n hx hb dX3_reachBottom_0 rfl (lv_at hl 1 rfl) ?_
  rcases k_sw17 b with c_1 | c_1 | c_1 | c_1 | c_1 | c_1 | c_1 | c_1
  · refine lv_tableOut (tgt := 100) hx hb dX3_reachBottom_1 c_1 (by decide) ?_
    refine lv_iload_n hx hb dX3_reachBottom_100 rfl (lv_at hl 2 rfl) ?_
    refine lv_i2l (v := v.toInt64) hx hb dX3_reachBottom_101 rfl ?_
    have e : rbF b v (N, T) = ((N, T), v.toInt64) := by unfold rbF; rw [if_neg (k_ne c_1 (by decide)), if_neg (k_ne c_1 (by decide)), if_neg (k_ne c_1 (by decide)), if_neg (k_ne c_1 (by decide)), if_neg (k_ne c_1 (by decide)), if_neg (k_ne c_1 (by decide)), if_neg (k_ne c_1 (by decide))]
    exact k_lret S hr hlk I (by rw [e]) (by rw [e]) dX3_reachBottom_102
  · refine lv_tableIn (tgt := 44) hx hb dX3_reachBottom_1 (by rw [c_1]; decide) (by rw [c_1]; decide) (by rw [c_1]; rfl) (by decide) ?_
    refine lv_aload_n hx hb dX3_reachBottom_44 rfl (lv_at hl 0 rfl) ?_
    refine lv_iconst (v := 1) hx hb dX3_reachBottom_45 (by decide) ?_
    refine lv_iload_n hx hb dX3_reachBottom_46 rfl (lv_at hl 2 rfl) ?_
    refine k_Vl (q0 := 0) (As := [.int 1, .int v]) (rest := []) (w1 := rgW ad cy C N (tnT T 1 v) rn X) (G := 0) S I (c_throwNew l D cy A ad C N T rn X 1 v) (cwV 2 hts gX3_reachBottom_X3_throwNew rfl rfl rfl (by decide +kernel) ⟨Nat.le_of_ble_eq_true rfl, Nat.le_of_ble_eq_true rfl⟩) rfl rfl rfl rfl hl.1 rfl (Nat.le_of_ble_eq_true rfl) dX3_reachBottom_47 ⟨Nat.zero_le _, Nat.zero_le _⟩ (fun H locs I => ?_)
    have e : rbF b v (N, T) = ((N, tnT T 1 v), 0) := by subst c_1; unfold rbF; rw [if_pos rfl]
    exact k_lret S hr hlk I (by rw [e]) (by rw [e]) dX3_reachBottom_50
  · refine lv_tableIn (tgt := 51) hx hb dX3_reachBottom_1 (by rw [c_1]; decide) (by rw [c_1]; decide) (by rw [c_1]; rfl) (by decide) ?_
    refine lv_aload_n hx hb dX3_reachBottom_51 rfl (lv_at hl 0 rfl) ?_
    refine lv_iconst (v := 2) hx hb dX3_reachBottom_52 (by decide) ?_
    refine lv_iload_n hx hb dX3_reachBottom_53 rfl (lv_at hl 2 rfl) ?_
    refine k_Vl (q0 := 0) (As := [.int 2, .int v]) (rest := []) (w1 := rgW ad cy C N (tnT T 2 v) rn X) (G := 0) S I (c_throwNew l D cy A ad C N T rn X 2 v) (cwV 2 hts gX3_reachBottom_X3_throwNew rfl rfl rfl (by decide +kernel) ⟨Nat.le_of_ble_eq_true rfl, Nat.le_of_ble_eq_true rfl⟩) rfl rfl rfl rfl hl.1 rfl (Nat.le_of_ble_eq_true rfl) dX3_reachBottom_54 ⟨Nat.zero_le _, Nat.zero_le _⟩ (fun H locs I => ?_)
    have e : rbF b v (N, T) = ((N, tnT T 2 v), 0) := by subst c_1; unfold rbF; rw [if_neg (by decide), if_pos rfl]
    exact k_lret S hr hlk I (by rw [e]) (by rw [e]) dX3_reachBottom_57
  · refine lv_tableIn (tgt := 58) hx hb dX3_reachBottom_1 (by rw [c_1]; decide) (by rw [c_1]; decide) (by rw [c_1]; rfl) (by decide) ?_
    refine lv_aload_n hx hb dX3_reachBottom_58 rfl (lv_at hl 0 rfl) ?_
    refine lv_iconst (v := 3) hx hb dX3_reachBottom_59 (by decide) ?_
    refine lv_iconst (v := 0) hx hb dX3_reachBottom_60 (by decide) ?_
    refine k_Vl (q0 := 0) (As := [.int 3, .int 0]) (rest := []) (w1 := rgW ad cy C N (tnT T 3 0) rn X) (G := 0) S I (c_throwNew l D cy A ad C N T rn X 3 0) (cwV 2 hts gX3_reachBottom_X3_throwNew rfl rfl rfl (by decide +kernel) ⟨Nat.le_of_ble_eq_true rfl, Nat.le_of_ble_eq_true rfl⟩) rfl rfl rfl rfl hl.1 rfl (Nat.le_of_ble_eq_true rfl) dX3_reachBottom_61 ⟨Nat.zero_le _, Nat.zero_le _⟩ (fun H locs I => ?_)
    have e : rbF b v (N, T) = ((N, tnT T 3 0), 0) := by subst c_1; unfold rbF; rw [if_neg (by decide), if_neg (by decide), if_pos rfl]
    exact k_lret S hr hlk I (by rw [e]) (by rw [e]) dX3_reachBottom_64
  · refine lv_tableIn (tgt := 65) hx hb dX3_reachBottom_1 (by rw [c_1]; decide) (by rw [c_1]; decide) (by rw [c_1]; rfl) (by decide) ?_
    refine lv_aload_n hx hb dX3_reachBottom_65 rfl (lv_at hl 0 rfl) ?_
    refine lv_iconst (v := 4) hx hb dX3_reachBottom_66 (by decide) ?_
    refine lv_iconst (v := 0) hx hb dX3_reachBottom_67 (by decide) ?_
    refine k_Vl (q0 := 0) (As := [.int 4, .int 0]) (rest := []) (w1 := rgW ad cy C N (tnT T 4 0) rn X) (G := 0) S I (c_throwNew l D cy A ad C N T rn X 4 0) (cwV 2 hts gX3_reachBottom_X3_throwNew rfl rfl rfl (by decide +kernel) ⟨Nat.le_of_ble_eq_true rfl, Nat.le_of_ble_eq_true rfl⟩) rfl rfl rfl rfl hl.1 rfl (Nat.le_of_ble_eq_true rfl) dX3_reachBottom_68 ⟨Nat.zero_le _, Nat.zero_le _⟩ (fun H locs I => ?_)
    have e : rbF b v (N, T) = ((N, tnT T 4 0), 0) := by subst c_1; unfold rbF; rw [if_neg (by decide), if_neg (by decide), if_neg (by decide), if_pos rfl]
    exact k_lret S hr hlk I (by rw [e]) (by rw [e]) dX3_reachBottom_71
  · refine lv_tableIn (tgt := 65) hx hb dX3_reachBottom_1 (by rw [c_1]; decide) (by rw [c_1]; decide) (by rw [c_1]; rfl) (by decide) ?_
    refine lv_aload_n hx hb dX3_reachBottom_65 rfl (lv_at hl 0 rfl) ?_
    refine lv_iconst (v := 4) hx hb dX3_reachBottom_66 (by decide) ?_
    refine lv_iconst (v := 0) hx hb dX3_reachBottom_67 (by decide) ?_
    refine k_Vl (q0 := 0) (As := [.int 4, .int 0]) (rest := []) (w1 := rgW ad cy C N (tnT T 4 0) rn X) (G := 0) S I (c_throwNew l D cy A ad C N T rn X 4 0) (cwV 2 hts gX3_reachBottom_X3_throwNew rfl rfl rfl (by decide +kernel) ⟨Nat.le_of_ble_eq_true rfl, Nat.le_of_ble_eq_true rfl⟩) rfl rfl rfl rfl hl.1 rfl (Nat.le_of_ble_eq_true rfl) dX3_reachBottom_68 ⟨Nat.zero_le _, Nat.zero_le _⟩ (fun H locs I => ?_)
    have e : rbF b v (N, T) = ((N, tnT T 4 0), 0) := by subst c_1; unfold rbF; rw [if_neg (by decide), if_neg (by decide), if_neg (by decide), if_neg (by decide), if_pos rfl]
    exact k_lret S hr hlk I (by rw [e]) (by rw [e]) dX3_reachBottom_71
  · refine lv_tableIn (tgt := 72) hx hb dX3_reachBottom_1 (by rw [c_1]; decide) (by rw [c_1]; decide) (by rw [c_1]; rfl) (by decide) ?_
    refine lv_iload_n hx hb dX3_reachBottom_72 rfl (lv_at hl 2 rfl) ?_
    refine lv_if_lt (tgt := 87) hx hb dX3_reachBottom_73 (by decide) (fun c_73 => ?_) (fun c_73 => ?_)
    · refine lv_aload_n hx hb dX3_reachBottom_87 rfl (lv_at hl 0 rfl) ?_
      refine lv_iconst (v := 5) hx hb dX3_reachBottom_88 (by decide) ?_
      refine lv_iconst (v := 0) hx hb dX3_reachBottom_89 (by decide) ?_
      refine k_Vl (q0 := 0) (As := [.int 5, .int 0]) (rest := []) (w1 := rgW ad cy C N (tnT T 5 0) rn X) (G := 0) S I (c_throwNew l D cy A ad C N T rn X 5 0) (cwV 2 hts gX3_reachBottom_X3_throwNew rfl rfl rfl (by decide +kernel) ⟨Nat.le_of_ble_eq_true rfl, Nat.le_of_ble_eq_true rfl⟩) rfl rfl rfl rfl hl.1 rfl (Nat.le_of_ble_eq_true rfl) dX3_reachBottom_90 ⟨Nat.zero_le _, Nat.zero_le _⟩ (fun H locs I => ?_)
      have e : rbF b v (N, T) = ((N, tnT T 5 0), 0) := by subst c_1; unfold rbF; rw [if_neg (by decide), if_neg (by decide), if_neg (by decide), if_neg (by decide), if_neg (by decide), if_pos rfl]; rw [if_pos c_73]
      exact k_lret S hr hlk I (by rw [e]) (by rw [e]) dX3_reachBottom_93
    · refine lv_iload_n hx hb dX3_reachBottom_76 rfl (lv_at hl 2 rfl) ?_
      refine lv_iconst (v := 3) hx hb dX3_reachBottom_77 (by decide) ?_
      refine lv_icmp_ge (tgt := 87) hx hb dX3_reachBottom_78 (by decide) (fun c_78 => ?_) (fun c_78 => ?_)
      · refine lv_aload_n hx hb dX3_reachBottom_87 rfl (lv_at hl 0 rfl) ?_
        refine lv_iconst (v := 5) hx hb dX3_reachBottom_88 (by decide) ?_
        refine lv_iconst (v := 0) hx hb dX3_reachBottom_89 (by decide) ?_
        refine k_Vl (q0 := 0) (As := [.int 5, .int 0]) (rest := []) (w1 := rgW ad cy C N (tnT T 5 0) rn X) (G := 0) S I (c_throwNew l D cy A ad C N T rn X 5 0) (cwV 2 hts gX3_reachBottom_X3_throwNew rfl rfl rfl (by decide +kernel) ⟨Nat.le_of_ble_eq_true rfl, Nat.le_of_ble_eq_true rfl⟩) rfl rfl rfl rfl hl.1 rfl (Nat.le_of_ble_eq_true rfl) dX3_reachBottom_90 ⟨Nat.zero_le _, Nat.zero_le _⟩ (fun H locs I => ?_)
        have e : rbF b v (N, T) = ((N, tnT T 5 0), 0) := by subst c_1; unfold rbF; rw [if_neg (by decide), if_neg (by decide), if_neg (by decide), if_neg (by decide), if_neg (by decide), if_pos rfl]; rw [if_neg c_73, if_pos c_78]
        exact k_lret S hr hlk I (by rw [e]) (by rw [e]) dX3_reachBottom_93
      · refine lv_ldc2 (v := 7) hx hb hown (hts _ (by decide +kernel)) dX3_reachBottom_81 ?_
        refine lv_goto (tgt := 93) hx hb dX3_reachBottom_84 (by decide) ?_
        have e : rbF b v (N, T) = ((N, T), 7) := by subst c_1; unfold rbF; rw [if_neg (by decide), if_neg (by decide), if_neg (by decide), if_neg (by decide), if_neg (by decide), if_pos rfl]; rw [if_neg c_73, if_neg c_78]
        exact k_lret S hr hlk I (by rw [e]) (by rw [e]) dX3_reachBottom_93
  · refine lv_tableIn (tgt := 94) hx hb dX3_reachBottom_1 (by rw [c_1]; decide) (by rw [c_1]; decide) (by rw [c_1]; rfl) (by decide) ?_
    refine lv_aload_n hx hb dX3_reachBottom_94 rfl (lv_at hl 0 rfl) ?_
    refine lv_iload_n hx hb dX3_reachBottom_95 rfl (lv_at hl 2 rfl) ?_
    refine k_Vl (q0 := 0) (As := [.int v]) (rest := []) (w1 := rgW ad cy C (nt (nt (nt N (dpN v)) (dpN v)) (dpN v)) (tnT T 1 v) rn X) (G := 0) S I (c_throwFromWithin l D cy A ad C N T rn X hN v) (cwV 1 hts gX3_reachBottom_X3_throwFromWithin rfl rfl rfl (by decide +kernel) ⟨Nat.le_of_ble_eq_true rfl, Nat.le_of_ble_eq_true rfl⟩) rfl rfl rfl rfl hl.1 rfl (Nat.le_of_ble_eq_true rfl) dX3_reachBottom_96 ⟨Nat.zero_le _, Nat.zero_le _⟩ (fun H locs I => ?_)
    have e : rbF b v (N, T) = ((nt (nt (nt N (dpN v)) (dpN v)) (dpN v), tnT T 1 v), 0) := by subst c_1; unfold rbF; rw [if_neg (by decide), if_neg (by decide), if_neg (by decide), if_neg (by decide), if_neg (by decide), if_neg (by decide), if_pos rfl]
    exact k_lret S hr hlk I (by rw [e]) (by rw [e]) dX3_reachBottom_99
theorem in_X3_doLast_X0 : ∀ w ∈ u_ws RX0 TX0 4, w ∈ wsX3_doLast := by decide +kernel
theorem in_X3_doLast_X3 : ∀ w ∈ u_ws RX3 TX3 4, w ∈ wsX3_doLast := by decide +kernel
set_option maxHeartbeats 4000000 in
set_option maxRecDepth 100000 in
/-- doLast -/
theorem c_doLast (l : Launch) (D : va_G) (cy : Nat → ClassId) (A : Nat → Prop) (ad : Nat → Nat) (C : rC) (N : rN) (T : rT) (rn : Int32) (X : va_W) (hN : N.2 < 99990) (hT : T.2.2 ≤ 7) (k : Nat) (hk : k < 6) (a : Int64) : Met l yX3_doLast wsX3_doLast ({ frames := 3, cells := 0, slots := 0, locals := 100 }) (va_Pc [.ref (ad 0), .int (nI k), .long a] (KP D cy A (rgW ad cy C N T rn X))) (va_Ql (fun (r : Int64) (_ : Unit) => r = (laF C k a (N, T)).2) (fun _ => KB D cy A (rgW ad cy C ((laF C k a (N, T)).1.1) ((laF C k a (N, T)).1.2) rn X)) A) 0 0 A := by
  refine k_open (own := RX3) (maxL := 5) (ret := (some .long)) (by decide) rfl rfl (Nat.le_of_ble_eq_true rfl) (fun p e s m args below meth c S hr hlk I ls hl => ?_)
  obtain ⟨hx, hb, hml, hown, hts⟩ := id S
  have hl : lv_has ls 5 [(0, .ref (ad 0)), (1, .int (nI k)), (2, .long a)] := hl
  refine lv_aload_n hx hb dX3_doLast_0 rfl (lv_at hl 0 rfl) ?_
  refine k_get (T := TX3) (N := 4) (ci := 3) (k := 0) (q0 := 0) (v := .ref (ad 1)) S I in_X3_doLast_X3 rfl rfl (by decide) (by decide +kernel) rfl dX3_doLast_1 ?_
  refine lv_iload_n hx hb dX3_doLast_4 rfl (lv_at hl 1 rfl) ?_
  refine k_aald (q0 := 1) (t0 := 0) (j := k) (b := ad (2 + k)) S I rfl rfl hk (by decide) rfl (lvF_at hk) dX3_doLast_5 ?_
  refine k_getN (T := TX0) (N := 4) (ci := 0) (k := 3) (q0 := (2 + k)) (v := .int (C.2.2.2 k)) S I in_X3_doLast_X0 (rgW_lv hk) rfl (by decide) I.2.1.1.2.2.2.2.2 rfl dX3_doLast_6 ?_
  refine lv_istore (lv' := [(4, .int (C.2.2.2 k)), (0, .ref (ad 0)), (1, .int (nI k)), (2, .long a)]) hx hb dX3_doLast_9 hl (by decide) rfl (fun ls hl => ?_)
  refine lv_aload_n hx hb dX3_doLast_11 rfl (lv_at hl 1 rfl) ?_
  refine k_get (T := TX3) (N := 4) (ci := 3) (k := 1) (q0 := 0) (v := .ref (ad 8)) S I in_X3_doLast_X3 rfl rfl (by decide) (by decide +kernel) rfl dX3_doLast_12 ?_
  refine lv_sipush (v := 600) hx hb dX3_doLast_15 (by decide) ?_
  refine lv_iload_n hx hb dX3_doLast_18 rfl (lv_at hl 2 rfl) ?_
  refine lv_iadd hx hb dX3_doLast_19 ?_
  refine k_Vv (q0 := 8) (As := [.int (600 + (nI k))]) (rest := []) (w1 := rgW ad cy C (nt N (600 + nI k)) T rn X) S I (c_add l D cy A ad C N T rn X (by omega) (600 + nI k)) (cwV 1 hts gX3_doLast_X1_add rfl rfl rfl (by decide +kernel) ⟨Nat.le_of_ble_eq_true rfl, Nat.le_of_ble_eq_true rfl⟩) rfl rfl rfl rfl hl.1 rfl (Nat.le_of_ble_eq_true rfl) dX3_doLast_20 ⟨Nat.zero_le _, Nat.zero_le _⟩ (fun H locs I => ?_)
  refine lv_aload_n hx hb dX3_doLast_23 rfl (lv_at hl 1 rfl) ?_
  refine k_get (T := TX3) (N := 4) (ci := 3) (k := 0) (q0 := 0) (v := .ref (ad 1)) S I in_X3_doLast_X3 rfl rfl (by decide) (by decide +kernel) rfl dX3_doLast_24 ?_
  refine lv_iload_n hx hb dX3_doLast_27 rfl (lv_at hl 2 rfl) ?_
  refine k_aald (q0 := 1) (t0 := 0) (j := k) (b := ad (2 + k)) S I rfl rfl hk (by decide) rfl (lvF_at hk) dX3_doLast_28 ?_
  refine k_getN (T := TX0) (N := 4) (ci := 0) (k := 2) (q0 := (2 + k)) (v := .int (C.2.2.1 k)) S I in_X3_doLast_X0 (rgW_lv hk) rfl (by decide) I.2.1.1.2.2.2.2.1 rfl dX3_doLast_29 ?_
  rcases k_sw13 (C.2.2.1 k) with c_32 | c_32 | c_32 | c_32
  · refine lv_tableOut (tgt := 86) hx hb dX3_doLast_32 c_32 (by decide) ?_
    refine lv_lload_n hx hb dX3_doLast_86 rfl (lv_at hl 3 rfl) ?_
    have e : laF C k a (N, T) = ((nt N (600 + nI k), T), a) := by unfold laF; dsimp only; rw [if_neg (k_ne c_32 (by decide)), if_neg (k_ne c_32 (by decide)), if_neg (k_ne c_32 (by decide))]
    exact k_lret S hr hlk I (by rw [e]) (by rw [e]) dX3_doLast_87
  · refine lv_tableIn (tgt := 60) hx hb dX3_doLast_32 (by rw [c_32]; decide) (by rw [c_32]; decide) (by rw [c_32]; rfl) (by decide) ?_
    refine lv_aload_n hx hb dX3_doLast_60 rfl (lv_at hl 1 rfl) ?_
    refine k_get (T := TX3) (N := 4) (ci := 3) (k := 2) (q0 := 0) (v := .ref (ad 10)) S I in_X3_doLast_X3 rfl rfl (by decide) (by decide +kernel) rfl dX3_doLast_61 ?_
    refine k_Vv (q0 := 10) (As := []) (rest := []) (w1 := rgW ad cy C (nt N (600 + nI k)) (dpT T) rn X) S I (c_drop l D cy A ad C (nt N (600 + nI k)) T rn X) (cwV 0 hts gX3_doLast_X2_drop rfl rfl rfl (by decide +kernel) ⟨Nat.le_of_ble_eq_true rfl, Nat.le_of_ble_eq_true rfl⟩) rfl rfl rfl rfl hl.1 rfl (Nat.le_of_ble_eq_true rfl) dX3_doLast_64 ⟨Nat.zero_le _, Nat.zero_le _⟩ (fun H locs I => ?_)
    refine lv_iload hx hb dX3_doLast_67 (lv_at hl 0 rfl) ?_
    refine lv_i2l (v := (C.2.2.2 k).toInt64) hx hb dX3_doLast_69 rfl ?_
    have e : laF C k a (N, T) = ((nt N (600 + nI k), dpT T), (C.2.2.2 k).toInt64) := by unfold laF; dsimp only; rw [if_pos c_32]
    exact k_lret S hr hlk I (by rw [e]) (by rw [e]) dX3_doLast_70
  · refine lv_tableIn (tgt := 71) hx hb dX3_doLast_32 (by rw [c_32]; decide) (by rw [c_32]; decide) (by rw [c_32]; rfl) (by decide) ?_
    refine lv_aload_n hx hb dX3_doLast_71 rfl (lv_at hl 1 rfl) ?_
    refine lv_iconst (v := 1) hx hb dX3_doLast_72 (by decide) ?_
    refine lv_iload hx hb dX3_doLast_73 (lv_at hl 0 rfl) ?_
    refine k_Vl (q0 := 0) (As := [.int 1, .int (C.2.2.2 k)]) (rest := []) (w1 := rgW ad cy C (nt N (600 + nI k)) (tnT T 1 (C.2.2.2 k)) rn X) (G := 0) S I (c_throwNew l D cy A ad C (nt N (600 + nI k)) T rn X 1 (C.2.2.2 k)) (cwV 2 hts gX3_doLast_X3_throwNew rfl rfl rfl (by decide +kernel) ⟨Nat.le_of_ble_eq_true rfl, Nat.le_of_ble_eq_true rfl⟩) rfl rfl rfl rfl hl.1 rfl (Nat.le_of_ble_eq_true rfl) dX3_doLast_75 ⟨Nat.zero_le _, Nat.zero_le _⟩ (fun H locs I => ?_)
    have e : laF C k a (N, T) = ((nt N (600 + nI k), tnT T 1 (C.2.2.2 k)), 0) := by unfold laF; dsimp only; rw [if_neg (by rw [c_32]; decide), if_pos c_32]
    exact k_lret S hr hlk I (by rw [e]) (by rw [e]) dX3_doLast_78
  · refine lv_tableIn (tgt := 79) hx hb dX3_doLast_32 (by rw [c_32]; decide) (by rw [c_32]; decide) (by rw [c_32]; rfl) (by decide) ?_
    refine lv_aload_n hx hb dX3_doLast_79 rfl (lv_at hl 1 rfl) ?_
    refine lv_iconst (v := 3) hx hb dX3_doLast_80 (by decide) ?_
    refine lv_iconst (v := 0) hx hb dX3_doLast_81 (by decide) ?_
    refine k_Vl (q0 := 0) (As := [.int 3, .int 0]) (rest := []) (w1 := rgW ad cy C (nt N (600 + nI k)) (tnT T 3 0) rn X) (G := 0) S I (c_throwNew l D cy A ad C (nt N (600 + nI k)) T rn X 3 0) (cwV 2 hts gX3_doLast_X3_throwNew rfl rfl rfl (by decide +kernel) ⟨Nat.le_of_ble_eq_true rfl, Nat.le_of_ble_eq_true rfl⟩) rfl rfl rfl rfl hl.1 rfl (Nat.le_of_ble_eq_true rfl) dX3_doLast_82 ⟨Nat.zero_le _, Nat.zero_le _⟩ (fun H locs I => ?_)
    have e : laF C k a (N, T) = ((nt N (600 + nI k), tnT T 3 0), 0) := by unfold laF; dsimp only; rw [if_neg (by rw [c_32]; decide), if_neg (by rw [c_32]; decide), if_pos c_32]
    exact k_lret S hr hlk I (by rw [e]) (by rw [e]) dX3_doLast_85
