/-! THE CONSTRUCTORS -/
set_option maxHeartbeats 4000000 in
set_option maxRecDepth 100000 in
/-- Level() -/
theorem c_Linit (l : Launch) (D : va_G) (cy : Nat → ClassId) (A : Nat → Prop) (ww : va_W) (h : Nat) : Met l yX0_init wsX0_init ({ frames := 1, cells := 0, slots := 0, locals := 20 }) (va_Pc [.ref h] (KP D cy A ww)) (va_Qv (fun (_ : Unit) => True) (fun _ => KB D cy A ww) A) 0 0 A := by
  refine k_openI (own := RX0) (maxL := 1) (ret := none) (by decide) rfl rfl rfl (Nat.le_of_ble_eq_true rfl) (fun p e s m args below meth c S hr hlk hnm I ls hl => ?_)
  obtain ⟨hx, hb, hml, hown, hts⟩ := id S
  have hl : lv_has ls 1 [(0, .ref h)] := hl
  refine lv_aload_n hx hb dX0_init_0 rfl (lv_at hl 0 rfl) ?_
  refine k_obj S hl.1 (by decide +kernel) (by decide +kernel) (by decide +kernel) dX0_init_1 (Nat.le_of_ble_eq_true rfl) (Nat.le_of_ble_eq_true rfl) ?_
  exact k_vret S hr hlk I rfl dX0_init_4
theorem in_X1_init_X1 : ∀ w ∈ u_ws RX1 TX1 2, w ∈ wsX1_init := by decide +kernel
theorem in_X2_init_X2 : ∀ w ∈ u_ws RX2 TX2 3, w ∈ wsX2_init := by decide +kernel
theorem in_X3_init_X3 : ∀ w ∈ u_ws RX3 TX3 4, w ∈ wsX3_init := by decide +kernel
set_option maxHeartbeats 4000000 in
set_option maxRecDepth 100000 in
/-- Notes() -/
theorem c_Ninit (l : Launch) (D : va_G) (cy : Nat → ClassId) (A : Nat → Prop) (ww : va_W) (h q0 : Nat) (hq : ww[q0]? = some (h, .inr (1, [.null, .int 0]))) : Met l yX1_init wsX1_init ({ frames := 1, cells := 1, slots := 64, locals := 20 }) (va_Pc [.ref h] (KP D cy A ww)) (va_Qv (fun (_ : Nat) => True) (fun r => KB D cy A ((ww ++ ([(r, .inl (cy 1, 64, .inl (fun _ => 0)))] : va_W)).set q0 (h, .inr (1, [.ref r, .int 0])))) A) 1 64 A := by
  refine k_openI (own := RX1) (maxL := 1) (ret := none) (by decide) rfl rfl rfl (Nat.le_of_ble_eq_true rfl) (fun p e s m args below meth c S hr hlk hnm I ls hl => ?_)
  obtain ⟨hx, hb, hml, hown, hts⟩ := id S
  have hl : lv_has ls 1 [(0, .ref h)] := hl
  refine lv_aload_n hx hb dX1_init_0 rfl (lv_at hl 0 rfl) ?_
  refine k_obj S hl.1 (by decide +kernel) (by decide +kernel) (by decide +kernel) dX1_init_1 (Nat.le_of_ble_eq_true rfl) (Nat.le_of_ble_eq_true rfl) ?_
  refine lv_aload_n hx hb dX1_init_4 rfl (lv_at hl 0 rfl) ?_
  refine lv_bipush (v := 64) hx hb dX1_init_5 (by decide) ?_
  refine k_newa (t0 := 1) (N' := 64) S I (by decide +kernel) rfl (by decide) rfl (Nat.le_of_ble_eq_true rfl) (Nat.le_of_ble_eq_true rfl) (Nat.le_of_ble_eq_true rfl) (fun _ => rfl) dX1_init_7 (fun r H I => ?_)
  refine k_putF (T := TX1) (N := 2) (ci := 1) (k := 0) (q0 := q0) (v := .ref r) (ty := .array .int) (fs := [.null, .int 0]) S I in_X1_init_X1 tyX1 tyX1_ok nmX1 (k_app hq) rfl (by decide) (by decide +kernel) rfl hnm rfl rfl rfl rfl (Nat.le_of_ble_eq_true rfl) rfl dX1_init_9 (fun H locs I => ?_)
  exact k_vretS r S hr hlk I trivial rfl dX1_init_12
set_option maxHeartbeats 4000000 in
set_option maxRecDepth 100000 in
/-- Thrown() -/
theorem c_Tinit (l : Launch) (D : va_G) (cy : Nat → ClassId) (A : Nat → Prop) (ww : va_W) (h q0 : Nat) (hq : ww[q0]? = some (h, .inr (2, [.null, .null, .int 0]))) : Met l yX2_init wsX2_init ({ frames := 1, cells := 2, slots := 14, locals := 20 }) (va_Pc [.ref h] (KP D cy A ww)) (va_Qv (fun (_ : Nat × Nat) => True) (fun u => KB D cy A ((((ww ++ ([(u.1, .inl (cy 2, 7, .inl (fun _ => 0)))] : va_W)).set q0 (h, .inr (2, [.ref u.1, .null, .int 0]))) ++ ([(u.2, .inl (cy 3, 7, .inl (fun _ => 0)))] : va_W)).set q0 (h, .inr (2, [.ref u.1, .ref u.2, .int 0])))) A) 2 14 A := by
  refine k_openI (own := RX2) (maxL := 1) (ret := none) (by decide) rfl rfl rfl (Nat.le_of_ble_eq_true rfl) (fun p e s m args below meth c S hr hlk hnm I ls hl => ?_)
  obtain ⟨hx, hb, hml, hown, hts⟩ := id S
  have hl : lv_has ls 1 [(0, .ref h)] := hl
  refine lv_aload_n hx hb dX2_init_0 rfl (lv_at hl 0 rfl) ?_
  refine k_obj S hl.1 (by decide +kernel) (by decide +kernel) (by decide +kernel) dX2_init_1 (Nat.le_of_ble_eq_true rfl) (Nat.le_of_ble_eq_true rfl) ?_
  refine lv_aload_n hx hb dX2_init_4 rfl (lv_at hl 0 rfl) ?_
  refine lv_bipush (v := 7) hx hb dX2_init_5 (by decide) ?_
  refine k_newa (t0 := 2) (N' := 7) S I (by decide +kernel) rfl (by decide) rfl (Nat.le_of_ble_eq_true rfl) (Nat.le_of_ble_eq_true rfl) (Nat.le_of_ble_eq_true rfl) (fun _ => rfl) dX2_init_7 (fun r1 H I => ?_)
  refine k_putF (T := TX2) (N := 3) (ci := 2) (k := 0) (q0 := q0) (v := .ref r1) (ty := .array .int) (fs := [.null, .null, .int 0]) S I in_X2_init_X2 tyX2 tyX2_ok nmX2 (k_app hq) rfl (by decide) (by decide +kernel) rfl hnm rfl rfl rfl rfl (Nat.le_of_ble_eq_true rfl) rfl dX2_init_9 (fun H locs I => ?_)
  refine lv_aload_n hx hb dX2_init_12 rfl (lv_at hl 0 rfl) ?_
  refine lv_bipush (v := 7) hx hb dX2_init_13 (by decide) ?_
  refine k_newa (t0 := 3) (N' := 7) S I (by decide +kernel) rfl (by decide) rfl (Nat.le_of_ble_eq_true rfl) (Nat.le_of_ble_eq_true rfl) (Nat.le_of_ble_eq_true rfl) (fun _ => rfl) dX2_init_15 (fun r2 H I => ?_)
  have hlt : q0 < (ww ++ [(r1, (.inl (cy 2, 7, .inl (fun _ => 0)) : va_E))]).length := by rw [List.length_append]; exact Nat.lt_of_lt_of_le (List.getElem?_eq_some_iff.mp hq).1 (Nat.le_add_right _ _)
  have hq2 : ((ww ++ [(r1, (.inl (cy 2, 7, .inl (fun _ => 0)) : va_E))]).set q0 (h, .inr (2, [.ref r1, .null, .int 0])))[q0]? = some (h, .inr (2, [.ref r1, .null, .int 0])) := by rw [List.getElem?_set_self hlt]
  refine k_putF (T := TX2) (N := 3) (ci := 2) (k := 1) (q0 := q0) (v := .ref r2) (ty := .array .int) (fs := [.ref r1, .null, .int 0]) S I in_X2_init_X2 tyX2 tyX2_ok nmX2 (k_app hq2) rfl (by decide) (by decide +kernel) rfl hnm rfl rfl rfl rfl (Nat.le_of_ble_eq_true rfl) rfl dX2_init_17 (fun H locs I => ?_)
  exact k_vretS (r1, r2) S hr hlk I trivial rfl dX2_init_20
def rC0 : rC := ((fun _ => 0), (fun _ => 0), (fun _ => 0), (fun _ => 0))
def rN0 : rN := ((fun _ => 0), 0)
def rT0 : rT := ((fun _ => 0), (fun _ => 0), 0)
def rAd (a0 a1 a2 a3 a4 a5 a6 a7 a8 a9 a10 a11 a12 : Nat) : Nat → Nat := fun k => match k with | 0 => a0 | 1 => a1 | 2 => a2 | 3 => a3 | 4 => a4 | 5 => a5 | 6 => a6 | 7 => a7 | 8 => a8 | 9 => a9 | 10 => a10 | 11 => a11 | _ => a12
theorem in_X3_init_X0 : ∀ w ∈ u_ws RX0 TX0 4, w ∈ wsX3_init := by decide +kernel
theorem in_X3_init_X1 : ∀ w ∈ u_ws RX1 TX1 2, w ∈ wsX3_init := by decide +kernel
theorem in_X3_init_X2 : ∀ w ∈ u_ws RX2 TX2 3, w ∈ wsX3_init := by decide +kernel
set_option maxHeartbeats 4000000 in
set_option maxRecDepth 100000 in
/-- UnwindRig() -/
theorem c_Rinit (l : Launch) (D : va_G) (cy : Nat → ClassId) (A : Nat → Prop) (h : Nat) : Met l yX3_init wsX3_init ({ frames := 3, cells := 12, slots := 113, locals := 80 }) (va_Pc [.ref h] (KP D cy A [(h, .inr (3, [.null, .null, .null, .int 0]))])) (va_Qv (fun (ad : Nat → Nat) => ad 0 = h) (fun ad => KB D cy A (rgW ad cy rC0 rN0 rT0 0 [])) A) 12 113 A := by
  refine k_openI (own := RX3) (maxL := 2) (ret := none) (by decide) rfl rfl rfl (Nat.le_of_ble_eq_true rfl) (fun p e s m args below meth c S hr hlk hnm I ls hl => ?_)
  obtain ⟨hx, hb, hml, hown, hts⟩ := id S
  have hl : lv_has ls 2 [(0, .ref h)] := hl
  refine lv_aload_n hx hb dX3_init_0 rfl (lv_at hl 0 rfl) ?_
  refine k_obj S hl.1 (by decide +kernel) (by decide +kernel) (by decide +kernel) dX3_init_1 (Nat.le_of_ble_eq_true rfl) (Nat.le_of_ble_eq_true rfl) ?_
  refine lv_aload_n hx hb dX3_init_4 rfl (lv_at hl 0 rfl) ?_
  refine lv_bipush (v := 6) hx hb dX3_init_5 (by decide) ?_
  refine k_newq (t0 := 0) (N' := 6) (C := RX0) (wf := fun a1 => [(h, .inr (3, [.null, .null, .null, .int 0])), (a1, .inl (cy 0, 6, .inr (.inr (.inr (.inr (fun _ => none))))))]) S I (by decide +kernel) I.2.1.2.2.2.2.2.2.2.2 rfl (by decide) rfl (Nat.le_of_ble_eq_true rfl) (Nat.le_of_ble_eq_true rfl) (Nat.le_of_ble_eq_true rfl) (fun _ => rfl) dX3_init_7 (fun a1 H I => ?_)
  refine k_putF (T := TX3) (N := 4) (ci := 3) (k := 0) (q0 := 0) (v := .ref a1) (ty := .array (.object "UnwindRig$Level")) (fs := [.null, .null, .null, .int 0]) (w1 := [(h, .inr (3, [.ref a1, .null, .null, .int 0])), (a1, .inl (cy 0, 6, .inr (.inr (.inr (.inr (fun _ => none))))))]) S I in_X3_init_X3 tyX3 tyX3_ok nmX3 rfl rfl (by decide) (by decide +kernel) rfl hnm rfl rfl rfl rfl (Nat.le_of_ble_eq_true rfl) rfl dX3_init_10 (fun H locs I => ?_)
  refine lv_aload_n hx hb dX3_init_13 rfl (lv_at hl 0 rfl) ?_
  refine k_new (C := RX1) (T := TX1) (N := 2) (ci := 1) (fs := [.null, .int 0]) (wf := fun a2 => [(h, .inr (3, [.ref a1, .null, .null, .int 0])), (a1, .inl (cy 0, 6, .inr (.inr (.inr (.inr (fun _ => none)))))), (a2, .inr (1, [.null, .int 0]))]) S I in_X3_init_X1 tyX1 tyX1_ok (by decide +kernel) (by decide +kernel) (by decide +kernel) rfl (fun j hj => by match j, hj with | 0, _ => rfl | 1, _ => rfl) (Nat.le_of_ble_eq_true rfl) (Nat.le_of_ble_eq_true rfl) (fun _ => rfl) dX3_init_14 (fun a2 H I => ?_)
  refine lv_dup hx hb dX3_init_17 rfl ?_
  refine k_IN (As := []) (rest := [.ref a2, .ref h]) S I (c_Ninit l D cy A _ a2 2 rfl) ⟨va_cnB 0 hts gX3_init_X1_init_n17 rfl rfl rfl (I.2.1.2.2.2.2.2.1) (hts (.initialized RX1) (by decide +kernel)) (by decide +kernel) ⟨(Nat.le_of_ble_eq_true rfl), (Nat.le_of_ble_eq_true rfl)⟩, rfl, hts (.instanceMethod yX1_init) (by decide +kernel)⟩ rfl hl.1 rfl (Nat.le_of_ble_eq_true rfl) dX3_init_18 ⟨(Nat.le_of_ble_eq_true rfl), (Nat.le_of_ble_eq_true rfl)⟩ (fun a3 H locs h9 I => ?_)
  have I := I.to (w1 := [(h, .inr (3, [.ref a1, .null, .null, .int 0])), (a1, .inl (cy 0, 6, .inr (.inr (.inr (.inr (fun _ => none)))))), (a2, .inr (1, [.ref a3, .int 0])), (a3, .inl (cy 1, 64, .inl (fun _ => 0)))]) rfl
  refine k_putF (T := TX3) (N := 4) (ci := 3) (k := 1) (q0 := 0) (v := .ref a2) (ty := .object "UnwindRig$Notes") (fs := [.ref a1, .null, .null, .int 0]) (w1 := [(h, .inr (3, [.ref a1, .ref a2, .null, .int 0])), (a1, .inl (cy 0, 6, .inr (.inr (.inr (.inr (fun _ => none)))))), (a2, .inr (1, [.ref a3, .int 0])), (a3, .inl (cy 1, 64, .inl (fun _ => 0)))]) S I in_X3_init_X3 tyX3 tyX3_ok nmX3 rfl rfl (by decide) (by decide +kernel) rfl hnm rfl rfl rfl rfl (Nat.le_of_ble_eq_true rfl) rfl dX3_init_21 (fun H locs I => ?_)
  refine lv_aload_n hx hb dX3_init_24 rfl (lv_at hl 0 rfl) ?_
  refine k_new (C := RX2) (T := TX2) (N := 3) (ci := 2) (fs := [.null, .null, .int 0]) (wf := fun a4 => [(h, .inr (3, [.ref a1, .ref a2, .null, .int 0])), (a1, .inl (cy 0, 6, .inr (.inr (.inr (.inr (fun _ => none)))))), (a2, .inr (1, [.ref a3, .int 0])), (a3, .inl (cy 1, 64, .inl (fun _ => 0))), (a4, .inr (2, [.null, .null, .int 0]))]) S I in_X3_init_X2 tyX2 tyX2_ok (by decide +kernel) (by decide +kernel) (by decide +kernel) rfl (fun j hj => by match j, hj with | 0, _ => rfl | 1, _ => rfl | 2, _ => rfl) (Nat.le_of_ble_eq_true rfl) (Nat.le_of_ble_eq_true rfl) (fun _ => rfl) dX3_init_25 (fun a4 H I => ?_)
  refine lv_dup hx hb dX3_init_28 rfl ?_
  refine k_IN (As := []) (rest := [.ref a4, .ref h]) S I (c_Tinit l D cy A _ a4 4 rfl) ⟨va_cnB 0 hts gX3_init_X2_init_n24 rfl rfl rfl (I.2.1.2.2.2.2.2.2.1) (hts (.initialized RX2) (by decide +kernel)) (by decide +kernel) ⟨(Nat.le_of_ble_eq_true rfl), (Nat.le_of_ble_eq_true rfl)⟩, rfl, hts (.instanceMethod yX2_init) (by decide +kernel)⟩ rfl hl.1 rfl (Nat.le_of_ble_eq_true rfl) dX3_init_29 ⟨(Nat.le_of_ble_eq_true rfl), (Nat.le_of_ble_eq_true rfl)⟩ (fun ⟨a5, a6⟩ H locs h9 I => ?_)
  have I := I.to (w1 := [(h, .inr (3, [.ref a1, .ref a2, .null, .int 0])), (a1, .inl (cy 0, 6, .inr (.inr (.inr (.inr (fun _ => none)))))), (a2, .inr (1, [.ref a3, .int 0])), (a3, .inl (cy 1, 64, .inl (fun _ => 0))), (a4, .inr (2, [.ref a5, .ref a6, .int 0])), (a5, .inl (cy 2, 7, .inl (fun _ => 0))), (a6, .inl (cy 3, 7, .inl (fun _ => 0)))]) rfl
  refine k_putF (T := TX3) (N := 4) (ci := 3) (k := 2) (q0 := 0) (v := .ref a4) (ty := .object "UnwindRig$Thrown") (fs := [.ref a1, .ref a2, .null, .int 0]) (w1 := [(h, .inr (3, [.ref a1, .ref a2, .ref a4, .int 0])), (a1, .inl (cy 0, 6, .inr (.inr (.inr (.inr (fun _ => none)))))), (a2, .inr (1, [.ref a3, .int 0])), (a3, .inl (cy 1, 64, .inl (fun _ => 0))), (a4, .inr (2, [.ref a5, .ref a6, .int 0])), (a5, .inl (cy 2, 7, .inl (fun _ => 0))), (a6, .inl (cy 3, 7, .inl (fun _ => 0)))]) S I in_X3_init_X3 tyX3 tyX3_ok nmX3 rfl rfl (by decide) (by decide +kernel) rfl hnm rfl rfl rfl rfl (Nat.le_of_ble_eq_true rfl) rfl dX3_init_32 (fun H locs I => ?_)
  refine lv_iconst (v := 0) hx hb dX3_init_35 (by decide) ?_
  refine lv_istore_n (lv' := [(1, .int 0), (0, .ref h)]) hx hb dX3_init_36 rfl hl (by decide) rfl (fun ls hl => ?_)
  refine lv_iload_n hx hb dX3_init_37 rfl (lv_at hl 0 rfl) ?_
  refine lv_bipush (v := 6) hx hb dX3_init_38 (by decide) ?_
  refine lv_icmp_ge (tgt := 62) hx hb dX3_init_40 (by decide) (fun c_40 => absurd c_40 (by decide)) (fun _ => ?_)
  refine lv_aload_n hx hb dX3_init_43 rfl (lv_at hl 1 rfl) ?_
  refine k_get (T := TX3) (N := 4) (ci := 3) (k := 0) (q0 := 0) (v := .ref a1) S I in_X3_init_X3 rfl rfl (by decide) (by decide +kernel) rfl dX3_init_44 ?_
  refine lv_iload_n hx hb dX3_init_47 rfl (lv_at hl 0 rfl) ?_
  refine k_new (C := RX0) (T := TX0) (N := 4) (ci := 0) (fs := [.int 0, .int 0, .int 0, .int 0]) (wf := fun b0 => [(h, .inr (3, [.ref a1, .ref a2, .ref a4, .int 0])), (a1, .inl (cy 0, 6, .inr (.inr (.inr (.inr (fun _ => none)))))), (a2, .inr (1, [.ref a3, .int 0])), (a3, .inl (cy 1, 64, .inl (fun _ => 0))), (a4, .inr (2, [.ref a5, .ref a6, .int 0])), (a5, .inl (cy 2, 7, .inl (fun _ => 0))), (a6, .inl (cy 3, 7, .inl (fun _ => 0))), (b0, .inr (0, [.int 0, .int 0, .int 0, .int 0]))]) S I in_X3_init_X0 tyX0 tyX0_ok (by decide +kernel) (by decide +kernel) (by decide +kernel) rfl (fun j hj => by match j, hj with | 0, _ => rfl | 1, _ => rfl | 2, _ => rfl | 3, _ => rfl) (Nat.le_of_ble_eq_true rfl) (Nat.le_of_ble_eq_true rfl) (fun _ => rfl) dX3_init_48 (fun b0 H I => ?_)
  refine lv_dup hx hb dX3_init_51 rfl ?_
  refine k_IN (As := []) (rest := [.ref b0, .int 0, .ref a1]) S I (c_Linit l D cy A _ b0) ⟨va_cnB 0 hts gX3_init_X0_init_n29 rfl rfl rfl (I.2.1.2.2.2.2.2.2.2.1) (hts (.initialized RX0) (by decide +kernel)) (by decide +kernel) ⟨(Nat.le_of_ble_eq_true rfl), (Nat.le_of_ble_eq_true rfl)⟩, rfl, hts (.instanceMethod yX0_init) (by decide +kernel)⟩ rfl hl.1 rfl (Nat.le_of_ble_eq_true rfl) dX3_init_52 ⟨(Nat.le_of_ble_eq_true rfl), (Nat.le_of_ble_eq_true rfl)⟩ (fun _ H locs h9 I => ?_)
  refine k_aast (q0 := 1) (t0 := 0) (j := 0) (qk := 7) (ci := 0) (w1 := [(h, .inr (3, [.ref a1, .ref a2, .ref a4, .int 0])), (a1, .inl (cy 0, 6, .inr (.inr (.inr (.inr (va_up (fun _ => none) 0 (some b0))))))), (a2, .inr (1, [.ref a3, .int 0])), (a3, .inl (cy 1, 64, .inl (fun _ => 0))), (a4, .inr (2, [.ref a5, .ref a6, .int 0])), (a5, .inl (cy 2, 7, .inl (fun _ => 0))), (a6, .inl (cy 3, 7, .inl (fun _ => 0))), (b0, .inr (0, [.int 0, .int 0, .int 0, .int 0]))]) S I rfl rfl rfl rfl (by decide) (by decide) rfl rfl dX3_init_55 (fun H locs I => ?_)
  refine lv_iinc (v := 1) (lv' := [(1, .int 1), (0, .ref h)]) hx hb dX3_init_56 hl (k := 0) rfl (by decide) (by decide) rfl (fun ls hl => ?_)
  refine lv_goto (tgt := 37) hx hb dX3_init_59 (by decide) ?_
  refine lv_iload_n hx hb dX3_init_37 rfl (lv_at hl 0 rfl) ?_
  refine lv_bipush (v := 6) hx hb dX3_init_38 (by decide) ?_
  refine lv_icmp_ge (tgt := 62) hx hb dX3_init_40 (by decide) (fun c_40 => absurd c_40 (by decide)) (fun _ => ?_)
  refine lv_aload_n hx hb dX3_init_43 rfl (lv_at hl 1 rfl) ?_
  refine k_get (T := TX3) (N := 4) (ci := 3) (k := 0) (q0 := 0) (v := .ref a1) S I in_X3_init_X3 rfl rfl (by decide) (by decide +kernel) rfl dX3_init_44 ?_
  refine lv_iload_n hx hb dX3_init_47 rfl (lv_at hl 0 rfl) ?_
  refine k_new (C := RX0) (T := TX0) (N := 4) (ci := 0) (fs := [.int 0, .int 0, .int 0, .int 0]) (wf := fun b1 => [(h, .inr (3, [.ref a1, .ref a2, .ref a4, .int 0])), (a1, .inl (cy 0, 6, .inr (.inr (.inr (.inr (va_up (fun _ => none) 0 (some b0))))))), (a2, .inr (1, [.ref a3, .int 0])), (a3, .inl (cy 1, 64, .inl (fun _ => 0))), (a4, .inr (2, [.ref a5, .ref a6, .int 0])), (a5, .inl (cy 2, 7, .inl (fun _ => 0))), (a6, .inl (cy 3, 7, .inl (fun _ => 0))), (b0, .inr (0, [.int 0, .int 0, .int 0, .int 0])), (b1, .inr (0, [.int 0, .int 0, .int 0, .int 0]))]) S I in_X3_init_X0 tyX0 tyX0_ok (by decide +kernel) (by decide +kernel) (by decide +kernel) rfl (fun j hj => by match j, hj with | 0, _ => rfl | 1, _ => rfl | 2, _ => rfl | 3, _ => rfl) (Nat.le_of_ble_eq_true rfl) (Nat.le_of_ble_eq_true rfl) (fun _ => rfl) dX3_init_48 (fun b1 H I => ?_)
  refine lv_dup hx hb dX3_init_51 rfl ?_
  refine k_IN (As := []) (rest := [.ref b1, .int 1, .ref a1]) S I (c_Linit l D cy A _ b1) ⟨va_cnB 0 hts gX3_init_X0_init_n29 rfl rfl rfl (I.2.1.2.2.2.2.2.2.2.1) (hts (.initialized RX0) (by decide +kernel)) (by decide +kernel) ⟨(Nat.le_of_ble_eq_true rfl), (Nat.le_of_ble_eq_true rfl)⟩, rfl, hts (.instanceMethod yX0_init) (by decide +kernel)⟩ rfl hl.1 rfl (Nat.le_of_ble_eq_true rfl) dX3_init_52 ⟨(Nat.le_of_ble_eq_true rfl), (Nat.le_of_ble_eq_true rfl)⟩ (fun _ H locs h9 I => ?_)
  refine k_aast (q0 := 1) (t0 := 0) (j := 1) (qk := 8) (ci := 0) (w1 := [(h, .inr (3, [.ref a1, .ref a2, .ref a4, .int 0])), (a1, .inl (cy 0, 6, .inr (.inr (.inr (.inr (va_up (va_up (fun _ => none) 0 (some b0)) 1 (some b1))))))), (a2, .inr (1, [.ref a3, .int 0])), (a3, .inl (cy 1, 64, .inl (fun _ => 0))), (a4, .inr (2, [.ref a5, .ref a6, .int 0])), (a5, .inl (cy 2, 7, .inl (fun _ => 0))), (a6, .inl (cy 3, 7, .inl (fun _ => 0))), (b0, .inr (0, [.int 0, .int 0, .int 0, .int 0])), (b1, .inr (0, [.int 0, .int 0, .int 0, .int 0]))]) S I rfl rfl rfl rfl (by decide) (by decide) rfl rfl dX3_init_55 (fun H locs I => ?_)
  refine lv_iinc (v := 2) (lv' := [(1, .int 2), (0, .ref h)]) hx hb dX3_init_56 hl (k := 0) rfl (by decide) (by decide) rfl (fun ls hl => ?_)
  refine lv_goto (tgt := 37) hx hb dX3_init_59 (by decide) ?_
  refine lv_iload_n hx hb dX3_init_37 rfl (lv_at hl 0 rfl) ?_
  refine lv_bipush (v := 6) hx hb dX3_init_38 (by decide) ?_
  refine lv_icmp_ge (tgt := 62) hx hb dX3_init_40 (by decide) (fun c_40 => absurd c_40 (by decide)) (fun _ => ?_)
  refine lv_aload_n hx hb dX3_init_43 rfl (lv_at hl 1 rfl) ?_
  refine k_get (T := TX3) (N := 4) (ci := 3) (k := 0) (q0 := 0) (v := .ref a1) S I in_X3_init_X3 rfl rfl (by decide) (by decide +kernel) rfl dX3_init_44 ?_
  refine lv_iload_n hx hb dX3_init_47 rfl (lv_at hl 0 rfl) ?_
  refine k_new (C := RX0) (T := TX0) (N := 4) (ci := 0) (fs := [.int 0, .int 0, .int 0, .int 0]) (wf := fun b2 => [(h, .inr (3, [.ref a1, .ref a2, .ref a4, .int 0])), (a1, .inl (cy 0, 6, .inr (.inr (.inr (.inr (va_up (va_up (fun _ => none) 0 (some b0)) 1 (some b1))))))), (a2, .inr (1, [.ref a3, .int 0])), (a3, .inl (cy 1, 64, .inl (fun _ => 0))), (a4, .inr (2, [.ref a5, .ref a6, .int 0])), (a5, .inl (cy 2, 7, .inl (fun _ => 0))), (a6, .inl (cy 3, 7, .inl (fun _ => 0))), (b0, .inr (0, [.int 0, .int 0, .int 0, .int 0])), (b1, .inr (0, [.int 0, .int 0, .int 0, .int 0])), (b2, .inr (0, [.int 0, .int 0, .int 0, .int 0]))]) S I in_X3_init_X0 tyX0 tyX0_ok (by decide +kernel) (by decide +kernel) (by decide +kernel) rfl (fun j hj => by match j, hj with | 0, _ => rfl | 1, _ => rfl | 2, _ => rfl | 3, _ => rfl) (Nat.le_of_ble_eq_true rfl) (Nat.le_of_ble_eq_true rfl) (fun _ => rfl) dX3_init_48 (fun b2 H I => ?_)
  refine lv_dup hx hb dX3_init_51 rfl ?_
  refine k_IN (As := []) (rest := [.ref b2, .int 2, .ref a1]) S I (c_Linit l D cy A _ b2) ⟨va_cnB 0 hts gX3_init_X0_init_n29 rfl rfl rfl (I.2.1.2.2.2.2.2.2.2.1) (hts (.initialized RX0) (by decide +kernel)) (by decide +kernel) ⟨(Nat.le_of_ble_eq_true rfl), (Nat.le_of_ble_eq_true rfl)⟩, rfl, hts (.instanceMethod yX0_init) (by decide +kernel)⟩ rfl hl.1 rfl (Nat.le_of_ble_eq_true rfl) dX3_init_52 ⟨(Nat.le_of_ble_eq_true rfl), (Nat.le_of_ble_eq_true rfl)⟩ (fun _ H locs h9 I => ?_)
  refine k_aast (q0 := 1) (t0 := 0) (j := 2) (qk := 9) (ci := 0) (w1 := [(h, .inr (3, [.ref a1, .ref a2, .ref a4, .int 0])), (a1, .inl (cy 0, 6, .inr (.inr (.inr (.inr (va_up (va_up (va_up (fun _ => none) 0 (some b0)) 1 (some b1)) 2 (some b2))))))), (a2, .inr (1, [.ref a3, .int 0])), (a3, .inl (cy 1, 64, .inl (fun _ => 0))), (a4, .inr (2, [.ref a5, .ref a6, .int 0])), (a5, .inl (cy 2, 7, .inl (fun _ => 0))), (a6, .inl (cy 3, 7, .inl (fun _ => 0))), (b0, .inr (0, [.int 0, .int 0, .int 0, .int 0])), (b1, .inr (0, [.int 0, .int 0, .int 0, .int 0])), (b2, .inr (0, [.int 0, .int 0, .int 0, .int 0]))]) S I rfl rfl rfl rfl (by decide) (by decide) rfl rfl dX3_init_55 (fun H locs I => ?_)
  refine lv_iinc (v := 3) (lv' := [(1, .int 3), (0, .ref h)]) hx hb dX3_init_56 hl (k := 0) rfl (by decide) (by decide) rfl (fun ls hl => ?_)
  refine lv_goto (tgt := 37) hx hb dX3_init_59 (by decide) ?_
  refine lv_iload_n hx hb dX3_init_37 rfl (lv_at hl 0 rfl) ?_
  refine lv_bipush (v := 6) hx hb dX3_init_38 (by decide) ?_
  refine lv_icmp_ge (tgt := 62) hx hb dX3_init_40 (by decide) (fun c_40 => absurd c_40 (by decide)) (fun _ => ?_)
  refine lv_aload_n hx hb dX3_init_43 rfl (lv_at hl 1 rfl) ?_
  refine k_get (T := TX3) (N := 4) (ci := 3) (k := 0) (q0 := 0) (v := .ref a1) S I in_X3_init_X3 rfl rfl (by decide) (by decide +kernel) rfl dX3_init_44 ?_
  refine lv_iload_n hx hb dX3_init_47 rfl (lv_at hl 0 rfl) ?_
  refine k_new (C := RX0) (T := TX0) (N := 4) (ci := 0) (fs := [.int 0, .int 0, .int 0, .int 0]) (wf := fun b3 => [(h, .inr (3, [.ref a1, .ref a2, .ref a4, .int 0])), (a1, .inl (cy 0, 6, .inr (.inr (.inr (.inr (va_up (va_up (va_up (fun _ => none) 0 (some b0)) 1 (some b1)) 2 (some b2))))))), (a2, .inr (1, [.ref a3, .int 0])), (a3, .inl (cy 1, 64, .inl (fun _ => 0))), (a4, .inr (2, [.ref a5, .ref a6, .int 0])), (a5, .inl (cy 2, 7, .inl (fun _ => 0))), (a6, .inl (cy 3, 7, .inl (fun _ => 0))), (b0, .inr (0, [.int 0, .int 0, .int 0, .int 0])), (b1, .inr (0, [.int 0, .int 0, .int 0, .int 0])), (b2, .inr (0, [.int 0, .int 0, .int 0, .int 0])), (b3, .inr (0, [.int 0, .int 0, .int 0, .int 0]))]) S I in_X3_init_X0 tyX0 tyX0_ok (by decide +kernel) (by decide +kernel) (by decide +kernel) rfl (fun j hj => by match j, hj with | 0, _ => rfl | 1, _ => rfl | 2, _ => rfl | 3, _ => rfl) (Nat.le_of_ble_eq_true rfl) (Nat.le_of_ble_eq_true rfl) (fun _ => rfl) dX3_init_48 (fun b3 H I => ?_)
  refine lv_dup hx hb dX3_init_51 rfl ?_
  refine k_IN (As := []) (rest := [.ref b3, .int 3, .ref a1]) S I (c_Linit l D cy A _ b3) ⟨va_cnB 0 hts gX3_init_X0_init_n29 rfl rfl rfl (I.2.1.2.2.2.2.2.2.2.1) (hts (.initialized RX0) (by decide +kernel)) (by decide +kernel) ⟨(Nat.le_of_ble_eq_true rfl), (Nat.le_of_ble_eq_true rfl)⟩, rfl, hts (.instanceMethod yX0_init) (by decide +kernel)⟩ rfl hl.1 rfl (Nat.le_of_ble_eq_true rfl) dX3_init_52 ⟨(Nat.le_of_ble_eq_true rfl), (Nat.le_of_ble_eq_true rfl)⟩ (fun _ H locs h9 I => ?_)
  refine k_aast (q0 := 1) (t0 := 0) (j := 3) (qk := 10) (ci := 0) (w1 := [(h, .inr (3, [.ref a1, .ref a2, .ref a4, .int 0])), (a1, .inl (cy 0, 6, .inr (.inr (.inr (.inr (va_up (va_up (va_up (va_up (fun _ => none) 0 (some b0)) 1 (some b1)) 2 (some b2)) 3 (some b3))))))), (a2, .inr (1, [.ref a3, .int 0])), (a3, .inl (cy 1, 64, .inl (fun _ => 0))), (a4, .inr (2, [.ref a5, .ref a6, .int 0])), (a5, .inl (cy 2, 7, .inl (fun _ => 0))), (a6, .inl (cy 3, 7, .inl (fun _ => 0))), (b0, .inr (0, [.int 0, .int 0, .int 0, .int 0])), (b1, .inr (0, [.int 0, .int 0, .int 0, .int 0])), (b2, .inr (0, [.int 0, .int 0, .int 0, .int 0])), (b3, .inr (0, [.int 0, .int 0, .int 0, .int 0]))]) S I rfl rfl rfl rfl (by decide) (by decide) rfl rfl dX3_init_55 (fun H locs I => ?_)
  refine lv_iinc (v := 4) (lv' := [(1, .int 4), (0, .ref h)]) hx hb dX3_init_56 hl (k := 0) rfl (by decide) (by decide) rfl (fun ls hl => ?_)
  refine lv_goto (tgt := 37) hx hb dX3_init_59 (by decide) ?_
  refine lv_iload_n hx hb dX3_init_37 rfl (lv_at hl 0 rfl) ?_
  refine lv_bipush (v := 6) hx hb dX3_init_38 (by decide) ?_
  refine lv_icmp_ge (tgt := 62) hx hb dX3_init_40 (by decide) (fun c_40 => absurd c_40 (by decide)) (fun _ => ?_)
  refine lv_aload_n hx hb dX3_init_43 rfl (lv_at hl 1 rfl) ?_
  refine k_get (T := TX3) (N := 4) (ci := 3) (k := 0) (q0 := 0) (v := .ref a1) S I in_X3_init_X3 rfl rfl (by decide) (by decide +kernel) rfl dX3_init_44 ?_
  refine lv_iload_n hx hb dX3_init_47 rfl (lv_at hl 0 rfl) ?_
  refine k_new (C := RX0) (T := TX0) (N := 4) (ci := 0) (fs := [.int 0, .int 0, .int 0, .int 0]) (wf := fun b4 => [(h, .inr (3, [.ref a1, .ref a2, .ref a4, .int 0])), (a1, .inl (cy 0, 6, .inr (.inr (.inr (.inr (va_up (va_up (va_up (va_up (fun _ => none) 0 (some b0)) 1 (some b1)) 2 (some b2)) 3 (some b3))))))), (a2, .inr (1, [.ref a3, .int 0])), (a3, .inl (cy 1, 64, .inl (fun _ => 0))), (a4, .inr (2, [.ref a5, .ref a6, .int 0])), (a5, .inl (cy 2, 7, .inl (fun _ => 0))), (a6, .inl (cy 3, 7, .inl (fun _ => 0))), (b0, .inr (0, [.int 0, .int 0, .int 0, .int 0])), (b1, .inr (0, [.int 0, .int 0, .int 0, .int 0])), (b2, .inr (0, [.int 0, .int 0, .int 0, .int 0])), (b3, .inr (0, [.int 0, .int 0, .int 0, .int 0])), (b4, .inr (0, [.int 0, .int 0, .int 0, .int 0]))]) S I in_X3_init_X0 tyX0 tyX0_ok (by decide +kernel) (by decide +kernel) (by decide +kernel) rfl (fun j hj => by match j, hj with | 0, _ => rfl | 1, _ => rfl | 2, _ => rfl | 3, _ => rfl) (Nat.le_of_ble_eq_true rfl) (Nat.le_of_ble_eq_true rfl) (fun _ => rfl) dX3_init_48 (fun b4 H I => ?_)
  refine lv_dup hx hb dX3_init_51 rfl ?_
  refine k_IN (As := []) (rest := [.ref b4, .int 4, .ref a1]) S I (c_Linit l D cy A _ b4) ⟨va_cnB 0 hts gX3_init_X0_init_n29 rfl rfl rfl (I.2.1.2.2.2.2.2.2.2.1) (hts (.initialized RX0) (by decide +kernel)) (by decide +kernel) ⟨(Nat.le_of_ble_eq_true rfl), (Nat.le_of_ble_eq_true rfl)⟩, rfl, hts (.instanceMethod yX0_init) (by decide +kernel)⟩ rfl hl.1 rfl (Nat.le_of_ble_eq_true rfl) dX3_init_52 ⟨(Nat.le_of_ble_eq_true rfl), (Nat.le_of_ble_eq_true rfl)⟩ (fun _ H locs h9 I => ?_)
  refine k_aast (q0 := 1) (t0 := 0) (j := 4) (qk := 11) (ci := 0) (w1 := [(h, .inr (3, [.ref a1, .ref a2, .ref a4, .int 0])), (a1, .inl (cy 0, 6, .inr (.inr (.inr (.inr (va_up (va_up (va_up (va_up (va_up (fun _ => none) 0 (some b0)) 1 (some b1)) 2 (some b2)) 3 (some b3)) 4 (some b4))))))), (a2, .inr (1, [.ref a3, .int 0])), (a3, .inl (cy 1, 64, .inl (fun _ => 0))), (a4, .inr (2, [.ref a5, .ref a6, .int 0])), (a5, .inl (cy 2, 7, .inl (fun _ => 0))), (a6, .inl (cy 3, 7, .inl (fun _ => 0))), (b0, .inr (0, [.int 0, .int 0, .int 0, .int 0])), (b1, .inr (0, [.int 0, .int 0, .int 0, .int 0])), (b2, .inr (0, [.int 0, .int 0, .int 0, .int 0])), (b3, .inr (0, [.int 0, .int 0, .int 0, .int 0])), (b4, .inr (0, [.int 0, .int 0, .int 0, .int 0]))]) S I rfl rfl rfl rfl (by decide) (by decide) rfl rfl dX3_init_55 (fun H locs I => ?_)
  refine lv_iinc (v := 5) (lv' := [(1, .int 5), (0, .ref h)]) hx hb dX3_init_56 hl (k := 0) rfl (by decide) (by decide) rfl (fun ls hl => ?_)
  refine lv_goto (tgt := 37) hx hb dX3_init_59 (by decide) ?_
  refine lv_iload_n hx hb dX3_init_37 rfl (lv_at hl 0 rfl) ?_
  refine lv_bipush (v := 6) hx hb dX3_init_38 (by decide) ?_
  refine lv_icmp_ge (tgt := 62) hx hb dX3_init_40 (by decide) (fun c_40 => absurd c_40 (by decide)) (fun _ => ?_)
  refine lv_aload_n hx hb dX3_init_43 rfl (lv_at hl 1 rfl) ?_
  refine k_get (T := TX3) (N := 4) (ci := 3) (k := 0) (q0 := 0) (v := .ref a1) S I in_X3_init_X3 rfl rfl (by decide) (by decide +kernel) rfl dX3_init_44 ?_
  refine lv_iload_n hx hb dX3_init_47 rfl (lv_at hl 0 rfl) ?_
  refine k_new (C := RX0) (T := TX0) (N := 4) (ci := 0) (fs := [.int 0, .int 0, .int 0, .int 0]) (wf := fun b5 => [(h, .inr (3, [.ref a1, .ref a2, .ref a4, .int 0])), (a1, .inl (cy 0, 6, .inr (.inr (.inr (.inr (va_up (va_up (va_up (va_up (va_up (fun _ => none) 0 (some b0)) 1 (some b1)) 2 (some b2)) 3 (some b3)) 4 (some b4))))))), (a2, .inr (1, [.ref a3, .int 0])), (a3, .inl (cy 1, 64, .inl (fun _ => 0))), (a4, .inr (2, [.ref a5, .ref a6, .int 0])), (a5, .inl (cy 2, 7, .inl (fun _ => 0))), (a6, .inl (cy 3, 7, .inl (fun _ => 0))), (b0, .inr (0, [.int 0, .int 0, .int 0, .int 0])), (b1, .inr (0, [.int 0, .int 0, .int 0, .int 0])), (b2, .inr (0, [.int 0, .int 0, .int 0, .int 0])), (b3, .inr (0, [.int 0, .int 0, .int 0, .int 0])), (b4, .inr (0, [.int 0, .int 0, .int 0, .int 0])), (b5, .inr (0, [.int 0, .int 0, .int 0, .int 0]))]) S I in_X3_init_X0 tyX0 tyX0_ok (by decide +kernel) (by decide +kernel) (by decide +kernel) rfl (fun j hj => by match j, hj with | 0, _ => rfl | 1, _ => rfl | 2, _ => rfl | 3, _ => rfl) (Nat.le_of_ble_eq_true rfl) (Nat.le_of_ble_eq_true rfl) (fun _ => rfl) dX3_init_48 (fun b5 H I => ?_)
  refine lv_dup hx hb dX3_init_51 rfl ?_
  refine k_IN (As := []) (rest := [.ref b5, .int 5, .ref a1]) S I (c_Linit l D cy A _ b5) ⟨va_cnB 0 hts gX3_init_X0_init_n29 rfl rfl rfl (I.2.1.2.2.2.2.2.2.2.1) (hts (.initialized RX0) (by decide +kernel)) (by decide +kernel) ⟨(Nat.le_of_ble_eq_true rfl), (Nat.le_of_ble_eq_true rfl)⟩, rfl, hts (.instanceMethod yX0_init) (by decide +kernel)⟩ rfl hl.1 rfl (Nat.le_of_ble_eq_true rfl) dX3_init_52 ⟨(Nat.le_of_ble_eq_true rfl), (Nat.le_of_ble_eq_true rfl)⟩ (fun _ H locs h9 I => ?_)
  refine k_aast (q0 := 1) (t0 := 0) (j := 5) (qk := 12) (ci := 0) (w1 := [(h, .inr (3, [.ref a1, .ref a2, .ref a4, .int 0])), (a1, .inl (cy 0, 6, .inr (.inr (.inr (.inr (va_up (va_up (va_up (va_up (va_up (va_up (fun _ => none) 0 (some b0)) 1 (some b1)) 2 (some b2)) 3 (some b3)) 4 (some b4)) 5 (some b5))))))), (a2, .inr (1, [.ref a3, .int 0])), (a3, .inl (cy 1, 64, .inl (fun _ => 0))), (a4, .inr (2, [.ref a5, .ref a6, .int 0])), (a5, .inl (cy 2, 7, .inl (fun _ => 0))), (a6, .inl (cy 3, 7, .inl (fun _ => 0))), (b0, .inr (0, [.int 0, .int 0, .int 0, .int 0])), (b1, .inr (0, [.int 0, .int 0, .int 0, .int 0])), (b2, .inr (0, [.int 0, .int 0, .int 0, .int 0])), (b3, .inr (0, [.int 0, .int 0, .int 0, .int 0])), (b4, .inr (0, [.int 0, .int 0, .int 0, .int 0])), (b5, .inr (0, [.int 0, .int 0, .int 0, .int 0]))]) S I rfl rfl rfl rfl (by decide) (by decide) rfl rfl dX3_init_55 (fun H locs I => ?_)
  refine lv_iinc (v := 6) (lv' := [(1, .int 6), (0, .ref h)]) hx hb dX3_init_56 hl (k := 0) rfl (by decide) (by decide) rfl (fun ls hl => ?_)
  refine lv_goto (tgt := 37) hx hb dX3_init_59 (by decide) ?_
  refine lv_iload_n hx hb dX3_init_37 rfl (lv_at hl 0 rfl) ?_
  refine lv_bipush (v := 6) hx hb dX3_init_38 (by decide) ?_
  refine lv_icmp_ge (tgt := 62) hx hb dX3_init_40 (by decide) (fun _ => ?_) (fun c_40 => absurd c_40 (by decide))
  have hF : (va_up (va_up (va_up (va_up (va_up (va_up (fun _ => none) 0 (some b0)) 1 (some b1)) 2 (some b2)) 3 (some b3)) 4 (some b4)) 5 (some b5)) = lvF (rAd h a1 b0 b1 b2 b3 b4 b5 a2 a3 a4 a5 a6) := by
    funext j
    match j with
    | 0 => rfl
    | 1 => rfl
    | 2 => rfl
    | 3 => rfl
    | 4 => rfl
    | 5 => rfl
    | j + 6 => simp [va_up, lvF]
  rw [hF] at I
  have I := I.sub (w1 := rgW (rAd h a1 b0 b1 b2 b3 b4 b5 a2 a3 a4 a5 a6) cy rC0 rN0 rT0 0 []) [0, 1, 7, 8, 9, 10, 11, 12, 2, 3, 4, 5, 6] rfl rfl rfl
  exact k_vretS (rAd h a1 b0 b1 b2 b3 b4 b5 a2 a3 a4 a5 a6) S hr hlk I rfl rfl dX3_init_62
