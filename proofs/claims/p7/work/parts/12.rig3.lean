/-! THE RIG: its face, laid by wip/whole/rig3.py -/
/-- the words of the throws that a method carries -/
def xwA : List Cond := (vx_atS RX3 38 "java/lang/ArrayIndexOutOfBoundsException" ["java/lang/IndexOutOfBoundsException", "java/lang/RuntimeException", "java/lang/Exception"]).filter goodWord ++ ((vx_atS RX3 141 "java/lang/IllegalStateException" ["java/lang/RuntimeException", "java/lang/Exception"]).filter goodWord ++ ((vx_atS RX3 146 "java/lang/UnsupportedOperationException" ["java/lang/RuntimeException", "java/lang/Exception"]).filter goodWord ++ ((vx_atS RX3 151 "java/lang/ArithmeticException" ["java/lang/RuntimeException", "java/lang/Exception"]).filter goodWord ++ (((npAt RX3 103).filter vx_no).filter goodWord))))
theorem xw_good : xwA.all goodWord = true := by decide +kernel
theorem xw_A : ∀ w ∈ (vx_atS RX3 38 "java/lang/ArrayIndexOutOfBoundsException" ["java/lang/IndexOutOfBoundsException", "java/lang/RuntimeException", "java/lang/Exception"]).filter goodWord, w ∈ xwA := fun _ h => List.mem_append_left _ h
theorem xn_A : ∀ w ∈ (vx_atS RX3 38 "java/lang/ArrayIndexOutOfBoundsException" ["java/lang/IndexOutOfBoundsException", "java/lang/RuntimeException", "java/lang/Exception"]).filter (fun w => !goodWord w), w ∈ nwl := by decide +kernel
theorem xw_I : ∀ w ∈ (vx_atS RX3 141 "java/lang/IllegalStateException" ["java/lang/RuntimeException", "java/lang/Exception"]).filter goodWord, w ∈ xwA := fun _ h => List.mem_append_right _ (List.mem_append_left _ h)
theorem xn_I : ∀ w ∈ (vx_atS RX3 141 "java/lang/IllegalStateException" ["java/lang/RuntimeException", "java/lang/Exception"]).filter (fun w => !goodWord w), w ∈ nwl := by decide +kernel
theorem xw_U : ∀ w ∈ (vx_atS RX3 146 "java/lang/UnsupportedOperationException" ["java/lang/RuntimeException", "java/lang/Exception"]).filter goodWord, w ∈ xwA := fun _ h => List.mem_append_right _ (List.mem_append_right _ (List.mem_append_left _ h))
theorem xn_U : ∀ w ∈ (vx_atS RX3 146 "java/lang/UnsupportedOperationException" ["java/lang/RuntimeException", "java/lang/Exception"]).filter (fun w => !goodWord w), w ∈ nwl := by decide +kernel
theorem xw_R : ∀ w ∈ (vx_atS RX3 151 "java/lang/ArithmeticException" ["java/lang/RuntimeException", "java/lang/Exception"]).filter goodWord, w ∈ xwA := fun _ h => List.mem_append_right _ (List.mem_append_right _ (List.mem_append_right _ (List.mem_append_left _ h)))
theorem xn_R : ∀ w ∈ (vx_atS RX3 151 "java/lang/ArithmeticException" ["java/lang/RuntimeException", "java/lang/Exception"]).filter (fun w => !goodWord w), w ∈ nwl := by decide +kernel
theorem xw_N : ∀ w ∈ ((npAt RX3 103).filter vx_no).filter goodWord, w ∈ xwA := fun _ h => List.mem_append_right _ (List.mem_append_right _ (List.mem_append_right _ (List.mem_append_right _ (h))))
theorem xn_N : ∀ w ∈ ((npAt RX3 103).filter vx_no).filter (fun w => !goodWord w), w ∈ nwl := by decide +kernel
theorem xo_A : ∀ w ∈ Cond.classLink RX3 34 "java/lang/ArrayIndexOutOfBoundsException" :: Cond.initialized "java/lang/ArrayIndexOutOfBoundsException" :: (vx_atS RX3 38 "java/lang/ArrayIndexOutOfBoundsException" ["java/lang/IndexOutOfBoundsException", "java/lang/RuntimeException", "java/lang/Exception"]), vx_ot w = true := by decide +kernel
theorem xo_I : ∀ w ∈ Cond.classLink RX3 137 "java/lang/IllegalStateException" :: Cond.initialized "java/lang/IllegalStateException" :: (vx_atS RX3 141 "java/lang/IllegalStateException" ["java/lang/RuntimeException", "java/lang/Exception"]), vx_ot w = true := by decide +kernel
theorem xo_U : ∀ w ∈ Cond.classLink RX3 142 "java/lang/UnsupportedOperationException" :: Cond.initialized "java/lang/UnsupportedOperationException" :: (vx_atS RX3 146 "java/lang/UnsupportedOperationException" ["java/lang/RuntimeException", "java/lang/Exception"]), vx_ot w = true := by decide +kernel
theorem xo_R : ∀ w ∈ Cond.classLink RX3 147 "java/lang/ArithmeticException" :: Cond.initialized "java/lang/ArithmeticException" :: (vx_atS RX3 151 "java/lang/ArithmeticException" ["java/lang/RuntimeException", "java/lang/Exception"]), vx_ot w = true := by decide +kernel
theorem xo_N : ∀ w ∈ Cond.classLink RX3 99 Bundle.nN :: Cond.initialized Bundle.nN :: ((npAt RX3 103).filter vx_no), vx_ot w = true := by decide +kernel
theorem gx_W {a b xw : List Cond} (h : GoodIn a b) (hx : xw.all goodWord = true) : GoodIn (a ++ xw) (b ++ xw) := fun w hw => (List.mem_append.mp hw).elim (fun h1 => ⟨List.mem_append_left _ (h w h1).1, (h w h1).2⟩) (fun h1 => ⟨List.mem_append_right _ h1, good_of_word (List.all_eq_true.mp hx w h1)⟩)
theorem gx_L {a b xw : List Cond} (h : GoodIn a b) : GoodIn (a ++ xw) b := fun w hw => ⟨List.mem_append_left _ (h w hw).1, (h w hw).2⟩
theorem gx_V {o C : String} {i : Nat} {y : MethodName} {a b xw : List Cond} (h : GoodIn a (wsV o i C y b)) (hx : xw.all goodWord = true) : GoodIn (a ++ xw) (wsV o i C y (b ++ xw)) := by
  have h2 := gx_W h hx
  unfold wsV at h2 ⊢
  rwa [List.append_assoc] at h2
theorem gx_S {o : String} {i : Nat} {y : MethodName} {a b xw : List Cond} (h : GoodIn a (va_wsS o i y b)) (hx : xw.all goodWord = true) : GoodIn (a ++ xw) (va_wsS o i y (b ++ xw)) := by
  have h2 := gx_W h hx
  unfold va_wsS at h2 ⊢
  rwa [List.append_assoc] at h2
def wtX3_set : List Cond := wsX3_set ++ xwA
def wtX3_run : List Cond := wsX3_run ++ xwA
def wtX3_note : List Cond := wsX3_note ++ xwA
def wtX3_count : List Cond := wsX3_count ++ xwA
def wtX3_throwOut : List Cond := wsX3_throwOut ++ xwA
theorem in_X3_set_X0 : ∀ w ∈ u_ws RX0 TX0 4, w ∈ wsX3_set := by decide +kernel
theorem in_X3_set_X3 : ∀ w ∈ u_ws RX3 TX3 4, w ∈ wsX3_set := by decide +kernel
theorem it_X3_set_X0 : ∀ w ∈ u_ws RX0 TX0 4, w ∈ wtX3_set := fun w h => List.mem_append_left _ (in_X3_set_X0 w h)
theorem it_X3_set_X3 : ∀ w ∈ u_ws RX3 TX3 4, w ∈ wtX3_set := fun w h => List.mem_append_left _ (in_X3_set_X3 w h)
theorem in_X3_run_X3 : ∀ w ∈ u_ws RX3 TX3 4, w ∈ wsX3_run := by decide +kernel
theorem it_X3_run_X3 : ∀ w ∈ u_ws RX3 TX3 4, w ∈ wtX3_run := fun w h => List.mem_append_left _ (in_X3_run_X3 w h)
theorem in_X3_note_X1 : ∀ w ∈ u_ws RX1 TX1 2, w ∈ wsX3_note := by decide +kernel
theorem in_X3_note_X3 : ∀ w ∈ u_ws RX3 TX3 4, w ∈ wsX3_note := by decide +kernel
theorem it_X3_note_X1 : ∀ w ∈ u_ws RX1 TX1 2, w ∈ wtX3_note := fun w h => List.mem_append_left _ (in_X3_note_X1 w h)
theorem it_X3_note_X3 : ∀ w ∈ u_ws RX3 TX3 4, w ∈ wtX3_note := fun w h => List.mem_append_left _ (in_X3_note_X3 w h)
theorem in_X3_count_X1 : ∀ w ∈ u_ws RX1 TX1 2, w ∈ wsX3_count := by decide +kernel
theorem in_X3_count_X3 : ∀ w ∈ u_ws RX3 TX3 4, w ∈ wsX3_count := by decide +kernel
theorem it_X3_count_X1 : ∀ w ∈ u_ws RX1 TX1 2, w ∈ wtX3_count := fun w h => List.mem_append_left _ (in_X3_count_X1 w h)
theorem it_X3_count_X3 : ∀ w ∈ u_ws RX3 TX3 4, w ∈ wtX3_count := fun w h => List.mem_append_left _ (in_X3_count_X3 w h)
set_option maxHeartbeats 4000000 in
set_option maxRecDepth 100000 in
/-- set, no such level -/
theorem c_rset0 (l : Launch) (hfl : l.stackTraces = false) (D : va_G) (cy : Nat → ClassId) (A : Nat → Prop) (ad : Nat → Nat) (C : rC) (N : rN) (T : rT) (rn : Int32) (X : va_W) (x a b d v : Int32) (hx0 : isL x = 0) : vx_Met l yX3_set wtX3_set ({ frames := 12, cells := 1, slots := 8, locals := 300 }) (va_Pc [.ref (ad 0), .int x, .int a, .int b, .int d, .int v] (KP D cy A (rgW ad cy C N T rn X))) (va_Qv (fun (_ : Unit) => False) (fun _ _ => True) A) (KX D cy A (rgW ad cy C N T rn X) "java/lang/ArrayIndexOutOfBoundsException") 1 8 A := by
  refine k_openX (own := RX3) (maxL := 8) (ret := (some .int)) (by decide) rfl rfl (Nat.le_of_ble_eq_true rfl) (fun p e s m args below meth c S hr hlk htab I ls hl => ?_)
  obtain ⟨hx, hb, hml, hown, hts⟩ := id S
  have hl : lv_has ls 8 [(0, .ref (ad 0)), (1, .int x), (2, .int a), (3, .int b), (4, .int d), (5, .int v)] := hl
  refine lv_iload_n hx hb dX3_set_0 rfl (lv_at hl 1 rfl) ?_
  refine k_Si (As := [.int x]) (rest := []) (w1 := rgW ad cy C N T rn X) (G := isL x) S I (c_isLevel l D cy A ad C N T rn X x) (va_cwS 1 hts (gx_L gX3_set_X3_isLevel) rfl rfl rfl (by decide +kernel) ⟨Nat.le_of_ble_eq_true rfl, Nat.le_of_ble_eq_true rfl⟩) rfl hl.1 rfl (Nat.le_of_ble_eq_true rfl) dX3_set_1 ⟨Nat.zero_le _, Nat.zero_le _⟩ (fun H locs I => ?_)
  refine lv_if_ne (tgt := 17) hx hb dX3_set_4 (by decide) (fun c_4 => ?_) (fun c_4 => ?_)
  · exact absurd hx0 c_4
  · obtain ⟨sa, hsa⟩ := I.2.1.2.2.1.1
    exact k_throwS (names := ["java/lang/IndexOutOfBoundsException", "java/lang/RuntimeException", "java/lang/Exception"]) S hlk htab hfl I hl.1 (by decide) (by decide) hsa (List.mem_append_left _ (by decide +kernel)) (List.mem_append_left _ (by decide +kernel)) (fun w hw => List.mem_append_right _ (xw_A w hw)) xn_A xo_A dX3_set_7 dX3_set_10 dX3_set_11 dX3_set_13 dX3_set_16 (Nat.le_of_ble_eq_true rfl) (Nat.le_of_ble_eq_true rfl) (Nat.le_of_ble_eq_true rfl) (Nat.le_of_ble_eq_true rfl) (Nat.le_of_ble_eq_true rfl) (Nat.le_of_ble_eq_true rfl)
set_option maxHeartbeats 4000000 in
set_option maxRecDepth 100000 in
/-- set, a level -/
theorem c_rset1 (l : Launch) (D : va_G) (cy : Nat → ClassId) (A : Nat → Prop) (ad : Nat → Nat) (C : rC) (N : rN) (T : rT) (rn : Int32) (X : va_W) (k : Nat) (hk : k < 6) (a b d v : Int32) : Met l yX3_set wsX3_set ({ frames := 1, cells := 0, slots := 0, locals := 40 }) (va_Pc [.ref (ad 0), .int (nI k), .int a, .int b, .int d, .int v] (KP D cy A (rgW ad cy C N T rn X))) (va_Qi (fun (r : Int32) (_ : Unit) => r = C.2.2.2 k) (fun _ => KB D cy A (rgW ad cy (upd C.1 k a, upd C.2.1 k b, upd C.2.2.1 k d, upd C.2.2.2 k v) N T rn X)) A) 0 0 A := by
  refine k_open (own := RX3) (maxL := 8) (ret := (some .int)) (by decide) rfl rfl (Nat.le_of_ble_eq_true rfl) (fun p e s m args below meth c S hr hlk I ls hl => ?_)
  obtain ⟨hx, hb, hml, hown, hts⟩ := id S
  have hl : lv_has ls 8 [(0, .ref (ad 0)), (1, .int (nI k)), (2, .int a), (3, .int b), (4, .int d), (5, .int v)] := hl
  refine lv_iload_n hx hb dX3_set_0 rfl (lv_at hl 1 rfl) ?_
  refine k_Si (As := [.int (nI k)]) (rest := []) (w1 := rgW ad cy C N T rn X) (G := isL (nI k)) S I (c_isLevel l D cy A ad C N T rn X (nI k)) (va_cwS 1 hts gX3_set_X3_isLevel rfl rfl rfl (by decide +kernel) ⟨Nat.le_of_ble_eq_true rfl, Nat.le_of_ble_eq_true rfl⟩) rfl hl.1 rfl (Nat.le_of_ble_eq_true rfl) dX3_set_1 ⟨Nat.zero_le _, Nat.zero_le _⟩ (fun H locs I => ?_)
  refine lv_if_ne (tgt := 17) hx hb dX3_set_4 (by decide) (fun c_4 => ?_) (fun c_4 => ?_)
  · refine lv_aload_n hx hb dX3_set_17 rfl (lv_at hl 0 rfl) ?_
    refine k_get (T := TX3) (N := 4) (ci := 3) (k := 0) (q0 := 0) (v := .ref (ad 1)) S I in_X3_set_X3 rfl rfl (by decide) (by decide +kernel) rfl dX3_set_18 ?_
    refine lv_iload_n hx hb dX3_set_21 rfl (lv_at hl 1 rfl) ?_
    refine k_aald (q0 := 1) (t0 := 0) (j := k) (b := ad (2 + k)) S I rfl rfl hk (by decide) rfl (lvF_at hk) dX3_set_22 ?_
    refine lv_astore (lv' := [(6, .ref (ad (2 + k))), (0, .ref (ad 0)), (1, .int (nI k)), (2, .int a), (3, .int b), (4, .int d), (5, .int v)]) hx hb dX3_set_23 hl (by decide) rfl (fun ls hl => ?_)
    refine lv_aload hx hb dX3_set_25 (lv_at hl 0 rfl) ?_
    refine k_getN (T := TX0) (N := 4) (ci := 0) (k := 3) (q0 := (2 + k)) (v := .int (C.2.2.2 k)) S I in_X3_set_X0 (rgW_lv hk) rfl (by decide) I.2.1.1.2.2.2.2.2 rfl dX3_set_27 ?_
    refine lv_istore (lv' := [(7, .int (C.2.2.2 k)), (6, .ref (ad (2 + k))), (0, .ref (ad 0)), (1, .int (nI k)), (2, .int a), (3, .int b), (4, .int d), (5, .int v)]) hx hb dX3_set_30 hl (by decide) rfl (fun ls hl => ?_)
    refine lv_aload hx hb dX3_set_32 (lv_at hl 1 rfl) ?_
    refine lv_iload_n hx hb dX3_set_34 rfl (lv_at hl 4 rfl) ?_
    refine k_putN (T := TX0) (N := 4) (ci := 0) (k := 0) (q0 := (2 + k)) (v := .int a) (ty := .int) (fs := (rgL C k)) (w1 := rgW ad cy (upd C.1 k a, C.2) N T rn X) S I in_X3_set_X0 tyX0 tyX0_ok nmX0 (rgW_lv hk) rfl (by decide) I.2.1.1.2.2.1 rfl rfl rfl rfl (Nat.le_of_ble_eq_true rfl) (rgW_set hk (by simp [rgL, pk_us]) (fun j hj => by simp [rgL, pk_un hj])) dX3_set_35 (fun H locs I => ?_)
    refine lv_aload hx hb dX3_set_38 (lv_at hl 1 rfl) ?_
    refine lv_iload_n hx hb dX3_set_40 rfl (lv_at hl 5 rfl) ?_
    refine k_putN (T := TX0) (N := 4) (ci := 0) (k := 1) (q0 := (2 + k)) (v := .int b) (ty := .int) (fs := (rgL (upd C.1 k a, C.2) k)) (w1 := rgW ad cy (upd C.1 k a, upd C.2.1 k b, C.2.2) N T rn X) S I in_X3_set_X0 tyX0 tyX0_ok nmX0 (rgW_lv hk) rfl (by decide) I.2.1.1.2.2.2.1 rfl rfl rfl rfl (Nat.le_of_ble_eq_true rfl) (rgW_set hk (by simp [rgL, pk_us]) (fun j hj => by simp [rgL, pk_un hj])) dX3_set_41 (fun H locs I => ?_)
    refine lv_aload hx hb dX3_set_44 (lv_at hl 1 rfl) ?_
    refine lv_iload hx hb dX3_set_46 (lv_at hl 6 rfl) ?_
    refine k_putN (T := TX0) (N := 4) (ci := 0) (k := 2) (q0 := (2 + k)) (v := .int d) (ty := .int) (fs := (rgL (upd C.1 k a, upd C.2.1 k b, C.2.2) k)) (w1 := rgW ad cy (upd C.1 k a, upd C.2.1 k b, upd C.2.2.1 k d, C.2.2.2) N T rn X) S I in_X3_set_X0 tyX0 tyX0_ok nmX0 (rgW_lv hk) rfl (by decide) I.2.1.1.2.2.2.2.1 rfl rfl rfl rfl (Nat.le_of_ble_eq_true rfl) (rgW_set hk (by simp [rgL, pk_us]) (fun j hj => by simp [rgL, pk_un hj])) dX3_set_48 (fun H locs I => ?_)
    refine lv_aload hx hb dX3_set_51 (lv_at hl 1 rfl) ?_
    refine lv_iload hx hb dX3_set_53 (lv_at hl 7 rfl) ?_
    refine k_putN (T := TX0) (N := 4) (ci := 0) (k := 3) (q0 := (2 + k)) (v := .int v) (ty := .int) (fs := (rgL (upd C.1 k a, upd C.2.1 k b, upd C.2.2.1 k d, C.2.2.2) k)) (w1 := rgW ad cy (upd C.1 k a, upd C.2.1 k b, upd C.2.2.1 k d, upd C.2.2.2 k v) N T rn X) S I in_X3_set_X0 tyX0 tyX0_ok nmX0 (rgW_lv hk) rfl (by decide) I.2.1.1.2.2.2.2.2 rfl rfl rfl rfl (Nat.le_of_ble_eq_true rfl) (rgW_set hk (by simp [rgL, pk_us]) (fun j hj => by simp [rgL, pk_un hj])) dX3_set_55 (fun H locs I => ?_)
    refine lv_iload hx hb dX3_set_58 (lv_at hl 0 rfl) ?_
    exact k_iret S hr hlk I rfl rfl dX3_set_60
  · exact absurd (c_4.symm.trans (isL_1 hk)) (by decide)
theorem kp_lt {x n : Int32} : x < (if 64 < n then 64 else n) ↔ x < n ∧ x < 64 := by
  split
  · rename_i h
    exact ⟨fun q => ⟨Int32.lt_trans q h, q⟩, fun q => q.2⟩
  · rename_i h
    exact ⟨fun q => ⟨q, Int32.lt_of_lt_of_le q (Int32.not_lt.mp h)⟩, fun q => q.1⟩
set_option maxHeartbeats 4000000 in
set_option maxRecDepth 100000 in
/-- note, there is none -/
theorem c_rnote0 (l : Launch) (hfl : l.stackTraces = false) (D : va_G) (cy : Nat → ClassId) (A : Nat → Prop) (ad : Nat → Nat) (C : rC) (N : rN) (T : rT) (rn : Int32) (X : va_W) (hN : N.2 < 100000) (x : Int32) (hn : x < 0 ∨ nI N.2 ≤ x ∨ 64 ≤ x) : vx_Met l yX3_note wtX3_note ({ frames := 12, cells := 1, slots := 8, locals := 300 }) (va_Pc [.ref (ad 0), .int x] (KP D cy A (rgW ad cy C N T rn X))) (va_Qv (fun (_ : Unit) => False) (fun _ _ => True) A) (KX D cy A (rgW ad cy C N T rn X) "java/lang/ArrayIndexOutOfBoundsException") 1 8 A := by
  refine k_openX (own := RX3) (maxL := 2) (ret := (some .int)) (by decide) rfl rfl (Nat.le_of_ble_eq_true rfl) (fun p e s m args below meth c S hr hlk htab I ls hl => ?_)
  obtain ⟨hx, hb, hml, hown, hts⟩ := id S
  have hl : lv_has ls 2 [(0, .ref (ad 0)), (1, .int x)] := hl
  refine lv_iload_n hx hb dX3_note_0 rfl (lv_at hl 1 rfl) ?_
  refine lv_if_lt (tgt := 15) hx hb dX3_note_1 (by decide) (fun c_1 => ?_) (fun c_1 => ?_)
  · obtain ⟨sa, hsa⟩ := I.2.1.2.2.1.2.2.2.2.2.2.1
    exact k_throwS (names := ["java/lang/IndexOutOfBoundsException", "java/lang/RuntimeException", "java/lang/Exception"]) S hlk htab hfl I hl.1 (by decide) (by decide) hsa (List.mem_append_left _ (by decide +kernel)) (List.mem_append_left _ (by decide +kernel)) (fun w hw => List.mem_append_right _ (xw_A w hw)) xn_A xo_A dX3_note_15 dX3_note_18 dX3_note_19 dX3_note_21 dX3_note_24 (Nat.le_of_ble_eq_true rfl) (Nat.le_of_ble_eq_true rfl) (Nat.le_of_ble_eq_true rfl) (Nat.le_of_ble_eq_true rfl) (Nat.le_of_ble_eq_true rfl) (Nat.le_of_ble_eq_true rfl)
  · refine lv_iload_n hx hb dX3_note_4 rfl (lv_at hl 1 rfl) ?_
    refine lv_aload_n hx hb dX3_note_5 rfl (lv_at hl 0 rfl) ?_
    refine k_get (T := TX3) (N := 4) (ci := 3) (k := 1) (q0 := 0) (v := .ref (ad 8)) S I it_X3_note_X3 rfl rfl (by decide) (List.mem_append_left _ (by decide +kernel)) rfl dX3_note_6 ?_
    refine k_Vi (q0 := 8) (As := []) (rest := [.int x]) (w1 := rgW ad cy C N T rn X) (G := if 64 < nI N.2 then 64 else nI N.2) S I (c_kept l D cy A ad C N T rn X hN) (cwV 0 hts (gx_L gX3_note_X1_kept) rfl rfl rfl (by decide +kernel) ⟨Nat.le_of_ble_eq_true rfl, Nat.le_of_ble_eq_true rfl⟩) rfl rfl rfl rfl hl.1 rfl (Nat.le_of_ble_eq_true rfl) dX3_note_9 ⟨Nat.zero_le _, Nat.zero_le _⟩ (fun H locs I => ?_)
    refine lv_icmp_lt (tgt := 25) hx hb dX3_note_12 (by decide) (fun c_12 => ?_) (fun c_12 => ?_)
    · exact absurd hn (fun h => h.elim c_1 (fun h => h.elim (Int32.not_le.mpr (kp_lt.mp c_12).1) (Int32.not_le.mpr (kp_lt.mp c_12).2)))
    · obtain ⟨sa, hsa⟩ := I.2.1.2.2.1.2.2.2.2.2.2.1
      exact k_throwS (names := ["java/lang/IndexOutOfBoundsException", "java/lang/RuntimeException", "java/lang/Exception"]) S hlk htab hfl I hl.1 (by decide) (by decide) hsa (List.mem_append_left _ (by decide +kernel)) (List.mem_append_left _ (by decide +kernel)) (fun w hw => List.mem_append_right _ (xw_A w hw)) xn_A xo_A dX3_note_15 dX3_note_18 dX3_note_19 dX3_note_21 dX3_note_24 (Nat.le_of_ble_eq_true rfl) (Nat.le_of_ble_eq_true rfl) (Nat.le_of_ble_eq_true rfl) (Nat.le_of_ble_eq_true rfl) (Nat.le_of_ble_eq_true rfl) (Nat.le_of_ble_eq_true rfl)
set_option maxHeartbeats 4000000 in
set_option maxRecDepth 100000 in
/-- note, one that was kept -/
theorem c_rnote1 (l : Launch) (D : va_G) (cy : Nat → ClassId) (A : Nat → Prop) (ad : Nat → Nat) (C : rC) (N : rN) (T : rT) (rn : Int32) (X : va_W) (hN : N.2 < 100000) (k : Nat) (h1 : k < N.2) (h2 : k < 64) : Met l yX3_note wsX3_note ({ frames := 3, cells := 0, slots := 0, locals := 60 }) (va_Pc [.ref (ad 0), .int (nI k)] (KP D cy A (rgW ad cy C N T rn X))) (va_Qi (fun (r : Int32) (_ : Unit) => r = N.1 k) (fun _ => KB D cy A (rgW ad cy C N T rn X)) A) 0 0 A := by
  refine k_open (own := RX3) (maxL := 2) (ret := (some .int)) (by decide) rfl rfl (Nat.le_of_ble_eq_true rfl) (fun p e s m args below meth c S hr hlk I ls hl => ?_)
  obtain ⟨hx, hb, hml, hown, hts⟩ := id S
  have hl : lv_has ls 2 [(0, .ref (ad 0)), (1, .int (nI k))] := hl
  refine lv_iload_n hx hb dX3_note_0 rfl (lv_at hl 1 rfl) ?_
  refine lv_if_lt (tgt := 15) hx hb dX3_note_1 (by decide) (fun c_1 => ?_) (fun c_1 => ?_)
  · exact absurd c_1 (nI_pos (by omega))
  · refine lv_iload_n hx hb dX3_note_4 rfl (lv_at hl 1 rfl) ?_
    refine lv_aload_n hx hb dX3_note_5 rfl (lv_at hl 0 rfl) ?_
    refine k_get (T := TX3) (N := 4) (ci := 3) (k := 1) (q0 := 0) (v := .ref (ad 8)) S I in_X3_note_X3 rfl rfl (by decide) (by decide +kernel) rfl dX3_note_6 ?_
    refine k_Vi (q0 := 8) (As := []) (rest := [.int (nI k)]) (w1 := rgW ad cy C N T rn X) (G := if 64 < nI N.2 then 64 else nI N.2) S I (c_kept l D cy A ad C N T rn X hN) (cwV 0 hts gX3_note_X1_kept rfl rfl rfl (by decide +kernel) ⟨Nat.le_of_ble_eq_true rfl, Nat.le_of_ble_eq_true rfl⟩) rfl rfl rfl rfl hl.1 rfl (Nat.le_of_ble_eq_true rfl) dX3_note_9 ⟨Nat.zero_le _, Nat.zero_le _⟩ (fun H locs I => ?_)
    refine lv_icmp_lt (tgt := 25) hx hb dX3_note_12 (by decide) (fun c_12 => ?_) (fun c_12 => ?_)
    · refine lv_aload_n hx hb dX3_note_25 rfl (lv_at hl 0 rfl) ?_
      refine k_get (T := TX3) (N := 4) (ci := 3) (k := 1) (q0 := 0) (v := .ref (ad 8)) S I in_X3_note_X3 rfl rfl (by decide) (by decide +kernel) rfl dX3_note_26 ?_
      refine k_getN (T := TX1) (N := 2) (ci := 1) (k := 0) (q0 := 8) (v := .ref (ad 9)) S I in_X3_note_X1 rfl rfl (by decide) I.2.1.1.1 rfl dX3_note_29 ?_
      refine lv_iload_n hx hb dX3_note_32 rfl (lv_at hl 1 rfl) ?_
      refine k_iald (q0 := 9) (t0 := 1) (j := k) (x := N.1 k) S I rfl rfl h2 (by decide) rfl rfl dX3_note_33 ?_
      exact k_iret S hr hlk I rfl rfl dX3_note_34
    · exact absurd (kp_lt.mpr ⟨nI_lt (b := N.2) h1 (by omega), nI_lt (b := 64) h2 (by decide)⟩) c_12
set_option maxHeartbeats 4000000 in
set_option maxRecDepth 100000 in
/-- count, none such -/
theorem c_rcount0 (l : Launch) (hfl : l.stackTraces = false) (D : va_G) (cy : Nat → ClassId) (A : Nat → Prop) (ad : Nat → Nat) (C : rC) (N : rN) (T : rT) (rn : Int32) (X : va_W) (x : Int32) (hn : x < 0 ∨ 6 < x) : vx_Met l yX3_count wtX3_count ({ frames := 12, cells := 1, slots := 8, locals := 300 }) (va_Pc [.ref (ad 0), .int x] (KP D cy A (rgW ad cy C N T rn X))) (va_Qv (fun (_ : Unit) => False) (fun _ _ => True) A) (KX D cy A (rgW ad cy C N T rn X) Bundle.nN) 1 8 A := by
  refine k_openX (own := RX3) (maxL := 2) (ret := (some .int)) (by decide) rfl rfl (Nat.le_of_ble_eq_true rfl) (fun p e s m args below meth c S hr hlk htab I ls hl => ?_)
  obtain ⟨hx, hb, hml, hown, hts⟩ := id S
  have hl : lv_has ls 2 [(0, .ref (ad 0)), (1, .int x)] := hl
  refine lv_iload_n hx hb dX3_count_0 rfl (lv_at hl 1 rfl) ?_
  rcases k_sw06 x with c_1 | c_1 | c_1 | c_1 | c_1 | c_1 | c_1 | c_1
  · refine lv_tableOut (tgt := 97) hx hb dX3_count_1 c_1 (by decide) ?_
    obtain ⟨sa, hsa⟩ := I.2.1.2.2.1.2.2.2.2.2.2.2
    exact k_throwN S hlk htab hfl I hl.1 hsa (List.mem_append_left _ (by decide +kernel)) (List.mem_append_left _ (by decide +kernel)) (fun w hw => List.mem_append_right _ (xw_N w hw)) xn_N xo_N dX3_count_97 dX3_count_100 dX3_count_101 dX3_count_103 dX3_count_106 (Nat.le_of_ble_eq_true rfl) (Nat.le_of_ble_eq_true rfl) (Nat.le_of_ble_eq_true rfl) (Nat.le_of_ble_eq_true rfl) (Nat.le_of_ble_eq_true rfl) (Nat.le_of_ble_eq_true rfl)
  · exact absurd hn (by rw [c_1]; decide)
  · exact absurd hn (by rw [c_1]; decide)
  · exact absurd hn (by rw [c_1]; decide)
  · exact absurd hn (by rw [c_1]; decide)
  · exact absurd hn (by rw [c_1]; decide)
  · exact absurd hn (by rw [c_1]; decide)
  · exact absurd hn (by rw [c_1]; decide)
set_option maxHeartbeats 4000000 in
set_option maxRecDepth 100000 in
/-- count -/
theorem c_rcount1 (l : Launch) (D : va_G) (cy : Nat → ClassId) (A : Nat → Prop) (ad : Nat → Nat) (C : rC) (N : rN) (T : rT) (rn : Int32) (X : va_W) (hT : T.2.2 ≤ 7) (x : Int32) (hx1 : ¬ x < 0 ∧ ¬ 6 < x) : Met l yX3_count wsX3_count ({ frames := 3, cells := 0, slots := 0, locals := 80 }) (va_Pc [.ref (ad 0), .int x] (KP D cy A (rgW ad cy C N T rn X))) (va_Qi (fun (r : Int32) (_ : Unit) => r = cnF N T rn x) (fun _ => KB D cy A (rgW ad cy C N T rn X)) A) 0 0 A := by
  refine k_open (own := RX3) (maxL := 2) (ret := (some .int)) (by decide) rfl rfl (Nat.le_of_ble_eq_true rfl) (fun p e s m args below meth c S hr hlk I ls hl => ?_)
  obtain ⟨hx, hb, hml, hown, hts⟩ := id S
  have hl : lv_has ls 2 [(0, .ref (ad 0)), (1, .int x)] := hl
  refine lv_iload_n hx hb dX3_count_0 rfl (lv_at hl 1 rfl) ?_
  rcases k_sw06 x with c_1 | c_1 | c_1 | c_1 | c_1 | c_1 | c_1 | c_1
  · exact absurd c_1 (fun h => h.elim (fun h => hx1.1 (Int32.lt_iff_toInt_lt.mpr h)) (fun h => hx1.2 (Int32.lt_iff_toInt_lt.mpr h)))
  · refine lv_tableIn (tgt := 44) hx hb dX3_count_1 (by rw [c_1]; decide) (by rw [c_1]; decide) (by rw [c_1]; rfl) (by decide) ?_
    refine lv_aload_n hx hb dX3_count_44 rfl (lv_at hl 0 rfl) ?_
    refine k_get (T := TX3) (N := 4) (ci := 3) (k := 1) (q0 := 0) (v := .ref (ad 8)) S I in_X3_count_X3 rfl rfl (by decide) (by decide +kernel) rfl dX3_count_45 ?_
    refine k_getN (T := TX1) (N := 2) (ci := 1) (k := 1) (q0 := 8) (v := .int (nI N.2)) S I in_X3_count_X1 rfl rfl (by decide) I.2.1.1.2.1 rfl dX3_count_48 ?_
    exact k_iret S hr hlk I (show cnF N T rn x = nI N.2 from by unfold cnF; rw [if_pos c_1]).symm rfl dX3_count_51
  · refine lv_tableIn (tgt := 52) hx hb dX3_count_1 (by rw [c_1]; decide) (by rw [c_1]; decide) (by rw [c_1]; rfl) (by decide) ?_
    refine lv_aload_n hx hb dX3_count_52 rfl (lv_at hl 0 rfl) ?_
    refine k_get (T := TX3) (N := 4) (ci := 3) (k := 3) (q0 := 0) (v := .int rn) S I in_X3_count_X3 rfl rfl (by decide) (by decide +kernel) rfl dX3_count_53 ?_
    exact k_iret S hr hlk I (show cnF N T rn x = rn from by unfold cnF; rw [if_neg (by rw [c_1]; decide), if_pos c_1]).symm rfl dX3_count_56
  · refine lv_tableIn (tgt := 57) hx hb dX3_count_1 (by rw [c_1]; decide) (by rw [c_1]; decide) (by rw [c_1]; rfl) (by decide) ?_
    refine lv_aload_n hx hb dX3_count_57 rfl (lv_at hl 0 rfl) ?_
    refine k_get (T := TX3) (N := 4) (ci := 3) (k := 2) (q0 := 0) (v := .ref (ad 10)) S I in_X3_count_X3 rfl rfl (by decide) (by decide +kernel) rfl dX3_count_58 ?_
    refine k_Vi (q0 := 10) (As := []) (rest := []) (w1 := rgW ad cy C N T rn X) (G := kdT T) S I (c_kind l D cy A ad C N T rn X hT) (cwV 0 hts gX3_count_X2_kind rfl rfl rfl (by decide +kernel) ⟨Nat.le_of_ble_eq_true rfl, Nat.le_of_ble_eq_true rfl⟩) rfl rfl rfl rfl hl.1 rfl (Nat.le_of_ble_eq_true rfl) dX3_count_61 ⟨Nat.zero_le _, Nat.zero_le _⟩ (fun H locs I => ?_)
    exact k_iret S hr hlk I (show cnF N T rn x = kdT T from by unfold cnF; rw [if_neg (by rw [c_1]; decide), if_neg (by rw [c_1]; decide), if_pos c_1]).symm rfl dX3_count_64
  · refine lv_tableIn (tgt := 65) hx hb dX3_count_1 (by rw [c_1]; decide) (by rw [c_1]; decide) (by rw [c_1]; rfl) (by decide) ?_
    refine lv_aload_n hx hb dX3_count_65 rfl (lv_at hl 0 rfl) ?_
    refine k_get (T := TX3) (N := 4) (ci := 3) (k := 2) (q0 := 0) (v := .ref (ad 10)) S I in_X3_count_X3 rfl rfl (by decide) (by decide +kernel) rfl dX3_count_66 ?_
    refine k_Vi (q0 := 10) (As := []) (rest := []) (w1 := rgW ad cy C N T rn X) (G := nbT T) S I (c_number l D cy A ad C N T rn X hT) (cwV 0 hts gX3_count_X2_number rfl rfl rfl (by decide +kernel) ⟨Nat.le_of_ble_eq_true rfl, Nat.le_of_ble_eq_true rfl⟩) rfl rfl rfl rfl hl.1 rfl (Nat.le_of_ble_eq_true rfl) dX3_count_69 ⟨Nat.zero_le _, Nat.zero_le _⟩ (fun H locs I => ?_)
    exact k_iret S hr hlk I (show cnF N T rn x = nbT T from by unfold cnF; rw [if_neg (by rw [c_1]; decide), if_neg (by rw [c_1]; decide), if_neg (by rw [c_1]; decide), if_pos c_1]).symm rfl dX3_count_72
  · refine lv_tableIn (tgt := 73) hx hb dX3_count_1 (by rw [c_1]; decide) (by rw [c_1]; decide) (by rw [c_1]; rfl) (by decide) ?_
    refine lv_aload_n hx hb dX3_count_73 rfl (lv_at hl 0 rfl) ?_
    refine k_get (T := TX3) (N := 4) (ci := 3) (k := 2) (q0 := 0) (v := .ref (ad 10)) S I in_X3_count_X3 rfl rfl (by decide) (by decide +kernel) rfl dX3_count_74 ?_
    refine k_Vi (q0 := 10) (As := []) (rest := []) (w1 := rgW ad cy C N T rn X) (G := csT T) S I (c_causes l D cy A ad C N T rn X hT) (cwV 0 hts gX3_count_X2_causes rfl rfl rfl (by decide +kernel) ⟨Nat.le_of_ble_eq_true rfl, Nat.le_of_ble_eq_true rfl⟩) rfl rfl rfl rfl hl.1 rfl (Nat.le_of_ble_eq_true rfl) dX3_count_77 ⟨Nat.zero_le _, Nat.zero_le _⟩ (fun H locs I => ?_)
    exact k_iret S hr hlk I (show cnF N T rn x = csT T from by unfold cnF; rw [if_neg (by rw [c_1]; decide), if_neg (by rw [c_1]; decide), if_neg (by rw [c_1]; decide), if_neg (by rw [c_1]; decide), if_pos c_1]).symm rfl dX3_count_80
  · refine lv_tableIn (tgt := 81) hx hb dX3_count_1 (by rw [c_1]; decide) (by rw [c_1]; decide) (by rw [c_1]; rfl) (by decide) ?_
    refine lv_aload_n hx hb dX3_count_81 rfl (lv_at hl 0 rfl) ?_
    refine k_get (T := TX3) (N := 4) (ci := 3) (k := 2) (q0 := 0) (v := .ref (ad 10)) S I in_X3_count_X3 rfl rfl (by decide) (by decide +kernel) rfl dX3_count_82 ?_
    refine k_Vi (q0 := 10) (As := []) (rest := []) (w1 := rgW ad cy C N T rn X) (G := lkT T) S I (c_lastCauseKind l D cy A ad C N T rn X hT) (cwV 0 hts gX3_count_X2_lastCauseKind rfl rfl rfl (by decide +kernel) ⟨Nat.le_of_ble_eq_true rfl, Nat.le_of_ble_eq_true rfl⟩) rfl rfl rfl rfl hl.1 rfl (Nat.le_of_ble_eq_true rfl) dX3_count_85 ⟨Nat.zero_le _, Nat.zero_le _⟩ (fun H locs I => ?_)
    exact k_iret S hr hlk I (show cnF N T rn x = lkT T from by unfold cnF; rw [if_neg (by rw [c_1]; decide), if_neg (by rw [c_1]; decide), if_neg (by rw [c_1]; decide), if_neg (by rw [c_1]; decide), if_neg (by rw [c_1]; decide), if_pos c_1]).symm rfl dX3_count_88
  · refine lv_tableIn (tgt := 89) hx hb dX3_count_1 (by rw [c_1]; decide) (by rw [c_1]; decide) (by rw [c_1]; rfl) (by decide) ?_
    refine lv_aload_n hx hb dX3_count_89 rfl (lv_at hl 0 rfl) ?_
    refine k_get (T := TX3) (N := 4) (ci := 3) (k := 2) (q0 := 0) (v := .ref (ad 10)) S I in_X3_count_X3 rfl rfl (by decide) (by decide +kernel) rfl dX3_count_90 ?_
    refine k_Vi (q0 := 10) (As := []) (rest := []) (w1 := rgW ad cy C N T rn X) (G := lnT T) S I (c_lastCauseNumber l D cy A ad C N T rn X hT) (cwV 0 hts gX3_count_X2_lastCauseNumber rfl rfl rfl (by decide +kernel) ⟨Nat.le_of_ble_eq_true rfl, Nat.le_of_ble_eq_true rfl⟩) rfl rfl rfl rfl hl.1 rfl (Nat.le_of_ble_eq_true rfl) dX3_count_93 ⟨Nat.zero_le _, Nat.zero_le _⟩ (fun H locs I => ?_)
    exact k_iret S hr hlk I (show cnF N T rn x = lnT T from by unfold cnF; rw [if_neg (by rw [c_1]; decide), if_neg (by rw [c_1]; decide), if_neg (by rw [c_1]; decide), if_neg (by rw [c_1]; decide), if_neg (by rw [c_1]; decide), if_neg (by rw [c_1]; decide)]).symm rfl dX3_count_96
set_option maxHeartbeats 4000000 in
set_option maxRecDepth 100000 in
/-- throwOut, nothing came out -/
theorem c_throwOut (l : Launch) (D : va_G) (cy : Nat → ClassId) (A : Nat → Prop) (ad : Nat → Nat) (C : rC) (N : rN) (T : rT) (rn : Int32) (X : va_W) (x : Int32) (hx0 : x = 0) : Met l yX3_throwOut wsX3_throwOut ({ frames := 0, cells := 0, slots := 0, locals := 0 }) (va_Pc [.int x] (KP D cy A (rgW ad cy C N T rn X))) (va_Qv (fun (_ : Unit) => True) (fun _ => KB D cy A (rgW ad cy C N T rn X)) A) 0 0 A := by
  refine k_open (own := RX3) (maxL := 1) (ret := none) (by decide) rfl rfl (Nat.le_of_ble_eq_true rfl) (fun p e s m args below meth c S hr hlk I ls hl => ?_)
  obtain ⟨hx, hb, hml, hown, hts⟩ := id S
  have hl : lv_has ls 1 [(0, .int x)] := hl
  refine lv_iload_n hx hb dX3_throwOut_0 rfl (lv_at hl 0 rfl) ?_
  rcases k_sw15 x with c_1 | c_1 | c_1 | c_1 | c_1 | c_1
  · refine lv_tableOut (tgt := 86) hx hb dX3_throwOut_1 c_1 (by decide) ?_
    exact k_vret S hr hlk I rfl dX3_throwOut_86
  · exact absurd (hx0.symm.trans c_1) (by decide)
  · exact absurd (hx0.symm.trans c_1) (by decide)
  · exact absurd (hx0.symm.trans c_1) (by decide)
  · exact absurd (hx0.symm.trans c_1) (by decide)
  · exact absurd (hx0.symm.trans c_1) (by decide)
set_option maxHeartbeats 4000000 in
set_option maxRecDepth 100000 in
/-- throwOut, kind 1 -/
theorem c_throwOut1 (l : Launch) (hfl : l.stackTraces = false) (D : va_G) (cy : Nat → ClassId) (A : Nat → Prop) (ad : Nat → Nat) (C : rC) (N : rN) (T : rT) (rn : Int32) (X : va_W) (x : Int32) (hx0 : x = 1) : vx_Met l yX3_throwOut wtX3_throwOut ({ frames := 12, cells := 1, slots := 8, locals := 300 }) (va_Pc [.int x] (KP D cy A (rgW ad cy C N T rn X))) (va_Qv (fun (_ : Unit) => False) (fun _ _ => True) A) (KX D cy A (rgW ad cy C N T rn X) "java/lang/IllegalStateException") 1 8 A := by
  refine k_openX (own := RX3) (maxL := 1) (ret := none) (by decide) rfl rfl (Nat.le_of_ble_eq_true rfl) (fun p e s m args below meth c S hr hlk htab I ls hl => ?_)
  obtain ⟨hx, hb, hml, hown, hts⟩ := id S
  have hl : lv_has ls 1 [(0, .int x)] := hl
  refine lv_iload_n hx hb dX3_throwOut_0 rfl (lv_at hl 0 rfl) ?_
  rcases k_sw15 x with c_1 | c_1 | c_1 | c_1 | c_1 | c_1
  · exact absurd hx0 (k_ne c_1 (by decide))
  · refine lv_tableIn (tgt := 36) hx hb dX3_throwOut_1 (by rw [c_1]; decide) (by rw [c_1]; decide) (by rw [c_1]; rfl) (by decide) ?_
    obtain ⟨sa, hsa⟩ := I.2.1.2.2.1.2.1
    exact k_throwS (names := ["java/lang/RuntimeException", "java/lang/Exception"]) S hlk htab hfl I hl.1 (by decide) (by decide) hsa (List.mem_append_left _ (by decide +kernel)) (List.mem_append_left _ (by decide +kernel)) (fun w hw => List.mem_append_right _ (xw_I w hw)) xn_I xo_I dX3_throwOut_36 dX3_throwOut_39 dX3_throwOut_40 dX3_throwOut_42 dX3_throwOut_45 (Nat.le_of_ble_eq_true rfl) (Nat.le_of_ble_eq_true rfl) (Nat.le_of_ble_eq_true rfl) (Nat.le_of_ble_eq_true rfl) (Nat.le_of_ble_eq_true rfl) (Nat.le_of_ble_eq_true rfl)
  · exact absurd (hx0.symm.trans c_1) (by decide)
  · exact absurd (hx0.symm.trans c_1) (by decide)
  · exact absurd (hx0.symm.trans c_1) (by decide)
  · exact absurd (hx0.symm.trans c_1) (by decide)
set_option maxHeartbeats 4000000 in
set_option maxRecDepth 100000 in
/-- throwOut, kind 2 -/
theorem c_throwOut2 (l : Launch) (hfl : l.stackTraces = false) (D : va_G) (cy : Nat → ClassId) (A : Nat → Prop) (ad : Nat → Nat) (C : rC) (N : rN) (T : rT) (rn : Int32) (X : va_W) (x : Int32) (hx0 : x = 2) : vx_Met l yX3_throwOut wtX3_throwOut ({ frames := 12, cells := 1, slots := 8, locals := 300 }) (va_Pc [.int x] (KP D cy A (rgW ad cy C N T rn X))) (va_Qv (fun (_ : Unit) => False) (fun _ _ => True) A) (KX D cy A (rgW ad cy C N T rn X) "java/lang/UnsupportedOperationException") 1 8 A := by
  refine k_openX (own := RX3) (maxL := 1) (ret := none) (by decide) rfl rfl (Nat.le_of_ble_eq_true rfl) (fun p e s m args below meth c S hr hlk htab I ls hl => ?_)
  obtain ⟨hx, hb, hml, hown, hts⟩ := id S
  have hl : lv_has ls 1 [(0, .int x)] := hl
  refine lv_iload_n hx hb dX3_throwOut_0 rfl (lv_at hl 0 rfl) ?_
  rcases k_sw15 x with c_1 | c_1 | c_1 | c_1 | c_1 | c_1
  · exact absurd hx0 (k_ne c_1 (by decide))
  · exact absurd (hx0.symm.trans c_1) (by decide)
  · refine lv_tableIn (tgt := 46) hx hb dX3_throwOut_1 (by rw [c_1]; decide) (by rw [c_1]; decide) (by rw [c_1]; rfl) (by decide) ?_
    obtain ⟨sa, hsa⟩ := I.2.1.2.2.1.2.2.1
    exact k_throwS (names := ["java/lang/RuntimeException", "java/lang/Exception"]) S hlk htab hfl I hl.1 (by decide) (by decide) hsa (List.mem_append_left _ (by decide +kernel)) (List.mem_append_left _ (by decide +kernel)) (fun w hw => List.mem_append_right _ (xw_U w hw)) xn_U xo_U dX3_throwOut_46 dX3_throwOut_49 dX3_throwOut_50 dX3_throwOut_52 dX3_throwOut_55 (Nat.le_of_ble_eq_true rfl) (Nat.le_of_ble_eq_true rfl) (Nat.le_of_ble_eq_true rfl) (Nat.le_of_ble_eq_true rfl) (Nat.le_of_ble_eq_true rfl) (Nat.le_of_ble_eq_true rfl)
  · exact absurd (hx0.symm.trans c_1) (by decide)
  · exact absurd (hx0.symm.trans c_1) (by decide)
  · exact absurd (hx0.symm.trans c_1) (by decide)
set_option maxHeartbeats 4000000 in
set_option maxRecDepth 100000 in
/-- throwOut, kind 3 -/
theorem c_throwOut3 (l : Launch) (hfl : l.stackTraces = false) (D : va_G) (cy : Nat → ClassId) (A : Nat → Prop) (ad : Nat → Nat) (C : rC) (N : rN) (T : rT) (rn : Int32) (X : va_W) (x : Int32) (hx0 : x = 3) : vx_Met l yX3_throwOut wtX3_throwOut ({ frames := 12, cells := 1, slots := 8, locals := 300 }) (va_Pc [.int x] (KP D cy A (rgW ad cy C N T rn X))) (va_Qv (fun (_ : Unit) => False) (fun _ _ => True) A) (KX D cy A (rgW ad cy C N T rn X) "java/lang/ArithmeticException") 1 8 A := by
  refine k_openX (own := RX3) (maxL := 1) (ret := none) (by decide) rfl rfl (Nat.le_of_ble_eq_true rfl) (fun p e s m args below meth c S hr hlk htab I ls hl => ?_)
  obtain ⟨hx, hb, hml, hown, hts⟩ := id S
  have hl : lv_has ls 1 [(0, .int x)] := hl
  refine lv_iload_n hx hb dX3_throwOut_0 rfl (lv_at hl 0 rfl) ?_
  rcases k_sw15 x with c_1 | c_1 | c_1 | c_1 | c_1 | c_1
  · exact absurd hx0 (k_ne c_1 (by decide))
  · exact absurd (hx0.symm.trans c_1) (by decide)
  · exact absurd (hx0.symm.trans c_1) (by decide)
  · refine lv_tableIn (tgt := 56) hx hb dX3_throwOut_1 (by rw [c_1]; decide) (by rw [c_1]; decide) (by rw [c_1]; rfl) (by decide) ?_
    obtain ⟨sa, hsa⟩ := I.2.1.2.2.1.2.2.2.1
    exact k_throwS (names := ["java/lang/RuntimeException", "java/lang/Exception"]) S hlk htab hfl I hl.1 (by decide) (by decide) hsa (List.mem_append_left _ (by decide +kernel)) (List.mem_append_left _ (by decide +kernel)) (fun w hw => List.mem_append_right _ (xw_R w hw)) xn_R xo_R dX3_throwOut_56 dX3_throwOut_59 dX3_throwOut_60 dX3_throwOut_62 dX3_throwOut_65 (Nat.le_of_ble_eq_true rfl) (Nat.le_of_ble_eq_true rfl) (Nat.le_of_ble_eq_true rfl) (Nat.le_of_ble_eq_true rfl) (Nat.le_of_ble_eq_true rfl) (Nat.le_of_ble_eq_true rfl)
  · exact absurd (hx0.symm.trans c_1) (by decide)
  · exact absurd (hx0.symm.trans c_1) (by decide)
set_option maxHeartbeats 4000000 in
set_option maxRecDepth 100000 in
/-- throwOut, kind 4 -/
theorem c_throwOut4 (l : Launch) (hfl : l.stackTraces = false) (D : va_G) (cy : Nat → ClassId) (A : Nat → Prop) (ad : Nat → Nat) (C : rC) (N : rN) (T : rT) (rn : Int32) (X : va_W) (x : Int32) (hx0 : x = 4) : vx_Met l yX3_throwOut wtX3_throwOut ({ frames := 12, cells := 1, slots := 8, locals := 300 }) (va_Pc [.int x] (KP D cy A (rgW ad cy C N T rn X))) (va_Qv (fun (_ : Unit) => False) (fun _ _ => True) A) (KX D cy A (rgW ad cy C N T rn X) Bundle.nN) 1 8 A := by
  refine k_openX (own := RX3) (maxL := 1) (ret := none) (by decide) rfl rfl (Nat.le_of_ble_eq_true rfl) (fun p e s m args below meth c S hr hlk htab I ls hl => ?_)
  obtain ⟨hx, hb, hml, hown, hts⟩ := id S
  have hl : lv_has ls 1 [(0, .int x)] := hl
  refine lv_iload_n hx hb dX3_throwOut_0 rfl (lv_at hl 0 rfl) ?_
  rcases k_sw15 x with c_1 | c_1 | c_1 | c_1 | c_1 | c_1
  · exact absurd hx0 (k_ne c_1 (by decide))
  · exact absurd (hx0.symm.trans c_1) (by decide)
  · exact absurd (hx0.symm.trans c_1) (by decide)
  · exact absurd (hx0.symm.trans c_1) (by decide)
  · refine lv_tableIn (tgt := 66) hx hb dX3_throwOut_1 (by rw [c_1]; decide) (by rw [c_1]; decide) (by rw [c_1]; rfl) (by decide) ?_
    obtain ⟨sa, hsa⟩ := I.2.1.2.2.1.2.2.2.2.1
    exact k_throwN S hlk htab hfl I hl.1 hsa (List.mem_append_left _ (by decide +kernel)) (List.mem_append_left _ (by decide +kernel)) (fun w hw => List.mem_append_right _ (xw_N w hw)) xn_N xo_N dX3_throwOut_66 dX3_throwOut_69 dX3_throwOut_70 dX3_throwOut_72 dX3_throwOut_75 (Nat.le_of_ble_eq_true rfl) (Nat.le_of_ble_eq_true rfl) (Nat.le_of_ble_eq_true rfl) (Nat.le_of_ble_eq_true rfl) (Nat.le_of_ble_eq_true rfl) (Nat.le_of_ble_eq_true rfl)
  · exact absurd (hx0.symm.trans c_1) (by decide)
set_option maxHeartbeats 4000000 in
set_option maxRecDepth 100000 in
/-- throwOut, kind 5 -/
theorem c_throwOut5 (l : Launch) (hfl : l.stackTraces = false) (D : va_G) (cy : Nat → ClassId) (A : Nat → Prop) (ad : Nat → Nat) (C : rC) (N : rN) (T : rT) (rn : Int32) (X : va_W) (x : Int32) (hx0 : x = 5) : vx_Met l yX3_throwOut wtX3_throwOut ({ frames := 12, cells := 1, slots := 8, locals := 300 }) (va_Pc [.int x] (KP D cy A (rgW ad cy C N T rn X))) (va_Qv (fun (_ : Unit) => False) (fun _ _ => True) A) (KX D cy A (rgW ad cy C N T rn X) "java/lang/ArrayIndexOutOfBoundsException") 1 8 A := by
  refine k_openX (own := RX3) (maxL := 1) (ret := none) (by decide) rfl rfl (Nat.le_of_ble_eq_true rfl) (fun p e s m args below meth c S hr hlk htab I ls hl => ?_)
  obtain ⟨hx, hb, hml, hown, hts⟩ := id S
  have hl : lv_has ls 1 [(0, .int x)] := hl
  refine lv_iload_n hx hb dX3_throwOut_0 rfl (lv_at hl 0 rfl) ?_
  rcases k_sw15 x with c_1 | c_1 | c_1 | c_1 | c_1 | c_1
  · exact absurd hx0 (k_ne c_1 (by decide))
  · exact absurd (hx0.symm.trans c_1) (by decide)
  · exact absurd (hx0.symm.trans c_1) (by decide)
  · exact absurd (hx0.symm.trans c_1) (by decide)
  · exact absurd (hx0.symm.trans c_1) (by decide)
  · refine lv_tableIn (tgt := 76) hx hb dX3_throwOut_1 (by rw [c_1]; decide) (by rw [c_1]; decide) (by rw [c_1]; rfl) (by decide) ?_
    obtain ⟨sa, hsa⟩ := I.2.1.2.2.1.2.2.2.2.2.1
    exact k_throwS (names := ["java/lang/IndexOutOfBoundsException", "java/lang/RuntimeException", "java/lang/Exception"]) S hlk htab hfl I hl.1 (by decide) (by decide) hsa (List.mem_append_left _ (by decide +kernel)) (List.mem_append_left _ (by decide +kernel)) (fun w hw => List.mem_append_right _ (xw_A w hw)) xn_A xo_A dX3_throwOut_76 dX3_throwOut_79 dX3_throwOut_80 dX3_throwOut_82 dX3_throwOut_85 (Nat.le_of_ble_eq_true rfl) (Nat.le_of_ble_eq_true rfl) (Nat.le_of_ble_eq_true rfl) (Nat.le_of_ble_eq_true rfl) (Nat.le_of_ble_eq_true rfl) (Nat.le_of_ble_eq_true rfl)
set_option maxHeartbeats 4000000 in
set_option maxRecDepth 100000 in
/-- run, no such level -/
theorem c_rrun0 (l : Launch) (hfl : l.stackTraces = false) (D : va_G) (cy : Nat → ClassId) (A : Nat → Prop) (ad : Nat → Nat) (C : rC) (N : rN) (T : rT) (rn : Int32) (X : va_W) (x b v : Int32) (hx0 : isL x = 0) : vx_Met l yX3_run wtX3_run ({ frames := 80, cells := 1, slots := 8, locals := 3000 }) (va_Pc [.ref (ad 0), .int x, .int b, .int v] (KP D cy A (rgW ad cy C N T rn X))) (va_Qv (fun (_ : Unit) => False) (fun _ _ => True) A) (KX D cy A (rgW ad cy C N T rn X) "java/lang/ArrayIndexOutOfBoundsException") 1 8 A := by
  refine k_openX (own := RX3) (maxL := 6) (ret := (some .long)) (by decide) rfl rfl (Nat.le_of_ble_eq_true rfl) (fun p e s m args below meth c S hr hlk htab I ls hl => ?_)
  obtain ⟨hx, hb, hml, hown, hts⟩ := id S
  have hl : lv_has ls 6 [(0, .ref (ad 0)), (1, .int x), (2, .int b), (3, .int v)] := hl
  refine lv_iload_n hx hb dX3_run_0 rfl (lv_at hl 1 rfl) ?_
  refine k_Si (As := [.int x]) (rest := []) (w1 := rgW ad cy C N T rn X) (G := isL x) S I (c_isLevel l D cy A ad C N T rn X x) (va_cwS 1 hts (gx_L gX3_run_X3_isLevel) rfl rfl rfl (by decide +kernel) ⟨Nat.le_of_ble_eq_true rfl, Nat.le_of_ble_eq_true rfl⟩) rfl hl.1 rfl (Nat.le_of_ble_eq_true rfl) dX3_run_1 ⟨Nat.zero_le _, Nat.zero_le _⟩ (fun H locs I => ?_)
  refine lv_if_ne (tgt := 17) hx hb dX3_run_4 (by decide) (fun c_4 => ?_) (fun c_4 => ?_)
  · exact absurd hx0 c_4
  · obtain ⟨sa, hsa⟩ := I.2.1.2.2.1.1
    exact k_throwS (names := ["java/lang/IndexOutOfBoundsException", "java/lang/RuntimeException", "java/lang/Exception"]) S hlk htab hfl I hl.1 (by decide) (by decide) hsa (List.mem_append_left _ (by decide +kernel)) (List.mem_append_left _ (by decide +kernel)) (fun w hw => List.mem_append_right _ (xw_A w hw)) xn_A xo_A dX3_run_7 dX3_run_10 dX3_run_11 dX3_run_13 dX3_run_16 (Nat.le_of_ble_eq_true rfl) (Nat.le_of_ble_eq_true rfl) (Nat.le_of_ble_eq_true rfl) (Nat.le_of_ble_eq_true rfl) (Nat.le_of_ble_eq_true rfl) (Nat.le_of_ble_eq_true rfl)
theorem cgF_le : ∀ k : Nat, k < 6 → 0 + (3 + 2 * cgF k) < 99000 := by decide
set_option maxHeartbeats 4000000 in
set_option maxRecDepth 100000 in
/-- run that answers -/
theorem c_rrun1 (l : Launch) (D : va_G) (cy : Nat → ClassId) (A : Nat → Prop) (ad : Nat → Nat) (C : rC) (N : rN) (T : rT) (rn : Int32) (X : va_W) (k : Nat) (hk : k < 6) (b v : Int32) (hkd : kdT (dlF C k (gdF C k) b v ((N.1, 0), dpT T)).1.2 = 0) : Met l yX3_run wsX3_run ({ frames := 80, cells := 0, slots := 0, locals := 3000 }) (va_Pc [.ref (ad 0), .int (nI k), .int b, .int v] (KP D cy A (rgW ad cy C N T rn X))) (va_Ql (fun (r : Int64) (_ : Unit) => r = (dlF C k (gdF C k) b v ((N.1, 0), dpT T)).2) (fun _ => KB D cy A (rgW ad cy C ((dlF C k (gdF C k) b v ((N.1, 0), dpT T)).1.1) ((dlF C k (gdF C k) b v ((N.1, 0), dpT T)).1.2) (rn + 1) X)) A) 0 0 A := by
  refine k_open (own := RX3) (maxL := 6) (ret := (some .long)) (by decide) rfl rfl (Nat.le_of_ble_eq_true rfl) (fun p e s m args below meth c S hr hlk I ls hl => ?_)
  obtain ⟨hx, hb, hml, hown, hts⟩ := id S
  have hl : lv_has ls 6 [(0, .ref (ad 0)), (1, .int (nI k)), (2, .int b), (3, .int v)] := hl
  have hc0 : (0 : Nat) + (3 + 2 * cgF k) < 99000 := cgF_le k hk
  refine lv_iload_n hx hb dX3_run_0 rfl (lv_at hl 1 rfl) ?_
  refine k_Si (As := [.int (nI k)]) (rest := []) (w1 := rgW ad cy C N T rn X) (G := isL (nI k)) S I (c_isLevel l D cy A ad C N T rn X (nI k)) (va_cwS 1 hts gX3_run_X3_isLevel rfl rfl rfl (by decide +kernel) ⟨Nat.le_of_ble_eq_true rfl, Nat.le_of_ble_eq_true rfl⟩) rfl hl.1 rfl (Nat.le_of_ble_eq_true rfl) dX3_run_1 ⟨Nat.zero_le _, Nat.zero_le _⟩ (fun H locs I => ?_)
  refine lv_if_ne (tgt := 17) hx hb dX3_run_4 (by decide) (fun c_4 => ?_) (fun c_4 => ?_)
  · refine lv_aload_n hx hb dX3_run_17 rfl (lv_at hl 0 rfl) ?_
    refine lv_dup hx hb dX3_run_18 rfl ?_
    refine k_get (T := TX3) (N := 4) (ci := 3) (k := 3) (q0 := 0) (v := .int rn) S I in_X3_run_X3 rfl rfl (by decide) (by decide +kernel) rfl dX3_run_19 ?_
    refine lv_iconst (v := 1) hx hb dX3_run_22 (by decide) ?_
    refine lv_iadd hx hb dX3_run_23 ?_
    refine k_put (T := TX3) (N := 4) (ci := 3) (k := 3) (q0 := 0) (v := .int (rn + 1)) (ty := .int) (fs := [.ref (ad 1), .ref (ad 8), .ref (ad 10), .int rn]) (w1 := rgW ad cy C N T (rn + 1) X) S I in_X3_run_X3 tyX3 tyX3_ok nmX3 rfl rfl (by decide) (by decide +kernel) rfl rfl rfl rfl (Nat.le_of_ble_eq_true rfl) rfl dX3_run_24 (fun H locs I => ?_)
    refine lv_aload_n hx hb dX3_run_27 rfl (lv_at hl 0 rfl) ?_
    refine k_get (T := TX3) (N := 4) (ci := 3) (k := 1) (q0 := 0) (v := .ref (ad 8)) S I in_X3_run_X3 rfl rfl (by decide) (by decide +kernel) rfl dX3_run_28 ?_
    refine k_Vv (q0 := 8) (As := []) (rest := []) (w1 := rgW ad cy C (N.1, 0) T (rn + 1) X) S I (c_beginAnew l D cy A ad C N T (rn + 1) X) (cwV 0 hts gX3_run_X1_beginAnew rfl rfl rfl (by decide +kernel) ⟨Nat.le_of_ble_eq_true rfl, Nat.le_of_ble_eq_true rfl⟩) rfl rfl rfl rfl hl.1 rfl (Nat.le_of_ble_eq_true rfl) dX3_run_31 ⟨Nat.zero_le _, Nat.zero_le _⟩ (fun H locs I => ?_)
    refine lv_aload_n hx hb dX3_run_34 rfl (lv_at hl 0 rfl) ?_
    refine k_get (T := TX3) (N := 4) (ci := 3) (k := 2) (q0 := 0) (v := .ref (ad 10)) S I in_X3_run_X3 rfl rfl (by decide) (by decide +kernel) rfl dX3_run_35 ?_
    refine k_Vv (q0 := 10) (As := []) (rest := []) (w1 := rgW ad cy C (N.1, 0) (dpT T) (rn + 1) X) S I (c_drop l D cy A ad C (N.1, 0) T (rn + 1) X) (cwV 0 hts gX3_run_X2_drop rfl rfl rfl (by decide +kernel) ⟨Nat.le_of_ble_eq_true rfl, Nat.le_of_ble_eq_true rfl⟩) rfl rfl rfl rfl hl.1 rfl (Nat.le_of_ble_eq_true rfl) dX3_run_38 ⟨Nat.zero_le _, Nat.zero_le _⟩ (fun H locs I => ?_)
    refine lv_aload_n hx hb dX3_run_41 rfl (lv_at hl 0 rfl) ?_
    refine lv_iload_n hx hb dX3_run_42 rfl (lv_at hl 1 rfl) ?_
    refine lv_iload_n hx hb dX3_run_43 rfl (lv_at hl 2 rfl) ?_
    refine lv_iload_n hx hb dX3_run_44 rfl (lv_at hl 3 rfl) ?_
    refine k_Vl (q0 := 0) (As := [.int (nI k), .int b, .int v]) (rest := []) (w1 := rgW ad cy C ((dlF C k (gdF C k) b v ((N.1, 0), dpT T)).1.1) ((dlF C k (gdF C k) b v ((N.1, 0), dpT T)).1.2) (rn + 1) X) (G := (dlF C k (gdF C k) b v ((N.1, 0), dpT T)).2) S I ((c_down l D cy A ad C (rn + 1) X k hk).2 (N.1, 0) (dpT T) b v hc0 (Nat.zero_le _)) (cwV 3 hts gX3_run_X3_doLevel rfl rfl rfl (by decide +kernel) ⟨by show 16 + 10 * k + 1 ≤ 80; omega, by show 8 + (6 + 11) + (700 + 400 * k) ≤ 3000; omega⟩) rfl rfl rfl rfl hl.1 rfl (Nat.le_of_ble_eq_true rfl) dX3_run_45 ⟨Nat.zero_le _, Nat.zero_le _⟩ (fun H locs I => ?_)
    have hh := (dlF_h (C := C) (k := k) (gdF_h C k) b v ((N.1, 0), dpT T) (Nat.zero_le _)).1
    refine lv_lstore (lv' := [(4, .long ((dlF C k (gdF C k) b v ((N.1, 0), dpT T)).2)), (0, .ref (ad 0)), (1, .int (nI k)), (2, .int b), (3, .int v)]) hx hb dX3_run_48 hl (by decide) rfl (fun ls hl => ?_)
    refine lv_aload_n hx hb dX3_run_50 rfl (lv_at hl 1 rfl) ?_
    refine k_get (T := TX3) (N := 4) (ci := 3) (k := 2) (q0 := 0) (v := .ref (ad 10)) S I in_X3_run_X3 rfl rfl (by decide) (by decide +kernel) rfl dX3_run_51 ?_
    refine k_Vi (q0 := 10) (As := []) (rest := []) (w1 := rgW ad cy C ((dlF C k (gdF C k) b v ((N.1, 0), dpT T)).1.1) ((dlF C k (gdF C k) b v ((N.1, 0), dpT T)).1.2) (rn + 1) X) (G := kdT (dlF C k (gdF C k) b v ((N.1, 0), dpT T)).1.2) S I (c_kind l D cy A ad C (dlF C k (gdF C k) b v ((N.1, 0), dpT T)).1.1 (dlF C k (gdF C k) b v ((N.1, 0), dpT T)).1.2 (rn + 1) X hh) (cwV 0 hts gX3_run_X2_kind rfl rfl rfl (by decide +kernel) ⟨Nat.le_of_ble_eq_true rfl, Nat.le_of_ble_eq_true rfl⟩) rfl rfl rfl rfl hl.1 rfl (Nat.le_of_ble_eq_true rfl) dX3_run_54 ⟨Nat.zero_le _, Nat.zero_le _⟩ (fun H locs I => ?_)
    refine k_Sv (As := [.int (kdT (dlF C k (gdF C k) b v ((N.1, 0), dpT T)).1.2)]) (rest := []) (w1 := rgW ad cy C ((dlF C k (gdF C k) b v ((N.1, 0), dpT T)).1.1) ((dlF C k (gdF C k) b v ((N.1, 0), dpT T)).1.2) (rn + 1) X) S I (c_throwOut l D cy A ad C (dlF C k (gdF C k) b v ((N.1, 0), dpT T)).1.1 (dlF C k (gdF C k) b v ((N.1, 0), dpT T)).1.2 (rn + 1) X (kdT (dlF C k (gdF C k) b v ((N.1, 0), dpT T)).1.2) hkd) (va_cwS 1 hts gX3_run_X3_throwOut rfl rfl rfl (by decide +kernel) ⟨Nat.le_of_ble_eq_true rfl, Nat.le_of_ble_eq_true rfl⟩) rfl hl.1 rfl (Nat.le_of_ble_eq_true rfl) dX3_run_57 ⟨Nat.zero_le _, Nat.zero_le _⟩ (fun H locs I => ?_)
    refine lv_lload hx hb dX3_run_60 (lv_at hl 0 rfl) ?_
    exact k_lret S hr hlk I rfl rfl dX3_run_62
  · exact absurd (c_4.symm.trans (isL_1 hk)) (by decide)
set_option maxHeartbeats 4000000 in
set_option maxRecDepth 100000 in
/-- run, out of which kind 1 comes -/
theorem c_rrunX1 (l : Launch) (hfl : l.stackTraces = false) (D : va_G) (cy : Nat → ClassId) (A : Nat → Prop) (ad : Nat → Nat) (C : rC) (N : rN) (T : rT) (rn : Int32) (X : va_W) (k : Nat) (hk : k < 6) (b v : Int32) (hkd : kdT (dlF C k (gdF C k) b v ((N.1, 0), dpT T)).1.2 = 1) : vx_Met l yX3_run wtX3_run ({ frames := 80, cells := 1, slots := 8, locals := 3000 }) (va_Pc [.ref (ad 0), .int (nI k), .int b, .int v] (KP D cy A (rgW ad cy C N T rn X))) (va_Qv (fun (_ : Unit) => False) (fun _ _ => True) A) (KX D cy A (rgW ad cy C ((dlF C k (gdF C k) b v ((N.1, 0), dpT T)).1.1) ((dlF C k (gdF C k) b v ((N.1, 0), dpT T)).1.2) (rn + 1) X) "java/lang/IllegalStateException") 1 8 A := by
  refine k_openX (own := RX3) (maxL := 6) (ret := (some .long)) (by decide) rfl rfl (Nat.le_of_ble_eq_true rfl) (fun p e s m args below meth c S hr hlk htab I ls hl => ?_)
  obtain ⟨hx, hb, hml, hown, hts⟩ := id S
  have hl : lv_has ls 6 [(0, .ref (ad 0)), (1, .int (nI k)), (2, .int b), (3, .int v)] := hl
  have hc0 : (0 : Nat) + (3 + 2 * cgF k) < 99000 := cgF_le k hk
  refine lv_iload_n hx hb dX3_run_0 rfl (lv_at hl 1 rfl) ?_
  refine k_Si (As := [.int (nI k)]) (rest := []) (w1 := rgW ad cy C N T rn X) (G := isL (nI k)) S I (c_isLevel l D cy A ad C N T rn X (nI k)) (va_cwS 1 hts (gx_L gX3_run_X3_isLevel) rfl rfl rfl (by decide +kernel) ⟨Nat.le_of_ble_eq_true rfl, Nat.le_of_ble_eq_true rfl⟩) rfl hl.1 rfl (Nat.le_of_ble_eq_true rfl) dX3_run_1 ⟨Nat.zero_le _, Nat.zero_le _⟩ (fun H locs I => ?_)
  refine lv_if_ne (tgt := 17) hx hb dX3_run_4 (by decide) (fun c_4 => ?_) (fun c_4 => ?_)
  · refine lv_aload_n hx hb dX3_run_17 rfl (lv_at hl 0 rfl) ?_
    refine lv_dup hx hb dX3_run_18 rfl ?_
    refine k_get (T := TX3) (N := 4) (ci := 3) (k := 3) (q0 := 0) (v := .int rn) S I it_X3_run_X3 rfl rfl (by decide) (List.mem_append_left _ (by decide +kernel)) rfl dX3_run_19 ?_
    refine lv_iconst (v := 1) hx hb dX3_run_22 (by decide) ?_
    refine lv_iadd hx hb dX3_run_23 ?_
    refine k_put (T := TX3) (N := 4) (ci := 3) (k := 3) (q0 := 0) (v := .int (rn + 1)) (ty := .int) (fs := [.ref (ad 1), .ref (ad 8), .ref (ad 10), .int rn]) (w1 := rgW ad cy C N T (rn + 1) X) S I it_X3_run_X3 tyX3 tyX3_ok nmX3 rfl rfl (by decide) (List.mem_append_left _ (by decide +kernel)) rfl rfl rfl rfl (Nat.le_of_ble_eq_true rfl) rfl dX3_run_24 (fun H locs I => ?_)
    refine lv_aload_n hx hb dX3_run_27 rfl (lv_at hl 0 rfl) ?_
    refine k_get (T := TX3) (N := 4) (ci := 3) (k := 1) (q0 := 0) (v := .ref (ad 8)) S I it_X3_run_X3 rfl rfl (by decide) (List.mem_append_left _ (by decide +kernel)) rfl dX3_run_28 ?_
    refine k_Vv (q0 := 8) (As := []) (rest := []) (w1 := rgW ad cy C (N.1, 0) T (rn + 1) X) S I (c_beginAnew l D cy A ad C N T (rn + 1) X) (cwV 0 hts (gx_L gX3_run_X1_beginAnew) rfl rfl rfl (by decide +kernel) ⟨Nat.le_of_ble_eq_true rfl, Nat.le_of_ble_eq_true rfl⟩) rfl rfl rfl rfl hl.1 rfl (Nat.le_of_ble_eq_true rfl) dX3_run_31 ⟨Nat.zero_le _, Nat.zero_le _⟩ (fun H locs I => ?_)
    refine lv_aload_n hx hb dX3_run_34 rfl (lv_at hl 0 rfl) ?_
    refine k_get (T := TX3) (N := 4) (ci := 3) (k := 2) (q0 := 0) (v := .ref (ad 10)) S I it_X3_run_X3 rfl rfl (by decide) (List.mem_append_left _ (by decide +kernel)) rfl dX3_run_35 ?_
    refine k_Vv (q0 := 10) (As := []) (rest := []) (w1 := rgW ad cy C (N.1, 0) (dpT T) (rn + 1) X) S I (c_drop l D cy A ad C (N.1, 0) T (rn + 1) X) (cwV 0 hts (gx_L gX3_run_X2_drop) rfl rfl rfl (by decide +kernel) ⟨Nat.le_of_ble_eq_true rfl, Nat.le_of_ble_eq_true rfl⟩) rfl rfl rfl rfl hl.1 rfl (Nat.le_of_ble_eq_true rfl) dX3_run_38 ⟨Nat.zero_le _, Nat.zero_le _⟩ (fun H locs I => ?_)
    refine lv_aload_n hx hb dX3_run_41 rfl (lv_at hl 0 rfl) ?_
    refine lv_iload_n hx hb dX3_run_42 rfl (lv_at hl 1 rfl) ?_
    refine lv_iload_n hx hb dX3_run_43 rfl (lv_at hl 2 rfl) ?_
    refine lv_iload_n hx hb dX3_run_44 rfl (lv_at hl 3 rfl) ?_
    refine k_Vl (q0 := 0) (As := [.int (nI k), .int b, .int v]) (rest := []) (w1 := rgW ad cy C ((dlF C k (gdF C k) b v ((N.1, 0), dpT T)).1.1) ((dlF C k (gdF C k) b v ((N.1, 0), dpT T)).1.2) (rn + 1) X) (G := (dlF C k (gdF C k) b v ((N.1, 0), dpT T)).2) S I ((c_down l D cy A ad C (rn + 1) X k hk).2 (N.1, 0) (dpT T) b v hc0 (Nat.zero_le _)) (cwV 3 hts (gx_L gX3_run_X3_doLevel) rfl rfl rfl (by decide +kernel) ⟨by show 16 + 10 * k + 1 ≤ 80; omega, by show 8 + (6 + 11) + (700 + 400 * k) ≤ 3000; omega⟩) rfl rfl rfl rfl hl.1 rfl (Nat.le_of_ble_eq_true rfl) dX3_run_45 ⟨Nat.zero_le _, Nat.zero_le _⟩ (fun H locs I => ?_)
    have hh := (dlF_h (C := C) (k := k) (gdF_h C k) b v ((N.1, 0), dpT T) (Nat.zero_le _)).1
    refine lv_lstore (lv' := [(4, .long ((dlF C k (gdF C k) b v ((N.1, 0), dpT T)).2)), (0, .ref (ad 0)), (1, .int (nI k)), (2, .int b), (3, .int v)]) hx hb dX3_run_48 hl (by decide) rfl (fun ls hl => ?_)
    refine lv_aload_n hx hb dX3_run_50 rfl (lv_at hl 1 rfl) ?_
    refine k_get (T := TX3) (N := 4) (ci := 3) (k := 2) (q0 := 0) (v := .ref (ad 10)) S I it_X3_run_X3 rfl rfl (by decide) (List.mem_append_left _ (by decide +kernel)) rfl dX3_run_51 ?_
    refine k_Vi (q0 := 10) (As := []) (rest := []) (w1 := rgW ad cy C ((dlF C k (gdF C k) b v ((N.1, 0), dpT T)).1.1) ((dlF C k (gdF C k) b v ((N.1, 0), dpT T)).1.2) (rn + 1) X) (G := kdT (dlF C k (gdF C k) b v ((N.1, 0), dpT T)).1.2) S I (c_kind l D cy A ad C (dlF C k (gdF C k) b v ((N.1, 0), dpT T)).1.1 (dlF C k (gdF C k) b v ((N.1, 0), dpT T)).1.2 (rn + 1) X hh) (cwV 0 hts (gx_L gX3_run_X2_kind) rfl rfl rfl (by decide +kernel) ⟨Nat.le_of_ble_eq_true rfl, Nat.le_of_ble_eq_true rfl⟩) rfl rfl rfl rfl hl.1 rfl (Nat.le_of_ble_eq_true rfl) dX3_run_54 ⟨Nat.zero_le _, Nat.zero_le _⟩ (fun H locs I => ?_)
    refine k_SX (As := [.int (kdT (dlF C k (gdF C k) b v ((N.1, 0), dpT T)).1.2)]) (rest := []) (w1 := rgW ad cy C ((dlF C k (gdF C k) b v ((N.1, 0), dpT T)).1.1) ((dlF C k (gdF C k) b v ((N.1, 0), dpT T)).1.2) (rn + 1) X) S I (c_throwOut1 l hfl D cy A ad C (dlF C k (gdF C k) b v ((N.1, 0), dpT T)).1.1 (dlF C k (gdF C k) b v ((N.1, 0), dpT T)).1.2 (rn + 1) X (kdT (dlF C k (gdF C k) b v ((N.1, 0), dpT T)).1.2) hkd) (va_cwS 1 hts (gx_S gX3_run_X3_throwOut xw_good) rfl rfl rfl (by decide +kernel) ⟨Nat.le_of_ble_eq_true rfl, Nat.le_of_ble_eq_true rfl⟩) rfl hl.1 rfl (Nat.le_of_ble_eq_true rfl) dX3_run_57 ⟨Nat.le_of_ble_eq_true rfl, Nat.le_of_ble_eq_true rfl⟩ (fun H locs ce q9 I g1 g2 g3 => ?_)
    exact k_out hlk htab I g1 g2 g3 (Nat.le_refl _) (Nat.le_refl _)
  · exact absurd (c_4.symm.trans (isL_1 hk)) (by decide)
set_option maxHeartbeats 4000000 in
set_option maxRecDepth 100000 in
/-- run, out of which kind 2 comes -/
theorem c_rrunX2 (l : Launch) (hfl : l.stackTraces = false) (D : va_G) (cy : Nat → ClassId) (A : Nat → Prop) (ad : Nat → Nat) (C : rC) (N : rN) (T : rT) (rn : Int32) (X : va_W) (k : Nat) (hk : k < 6) (b v : Int32) (hkd : kdT (dlF C k (gdF C k) b v ((N.1, 0), dpT T)).1.2 = 2) : vx_Met l yX3_run wtX3_run ({ frames := 80, cells := 1, slots := 8, locals := 3000 }) (va_Pc [.ref (ad 0), .int (nI k), .int b, .int v] (KP D cy A (rgW ad cy C N T rn X))) (va_Qv (fun (_ : Unit) => False) (fun _ _ => True) A) (KX D cy A (rgW ad cy C ((dlF C k (gdF C k) b v ((N.1, 0), dpT T)).1.1) ((dlF C k (gdF C k) b v ((N.1, 0), dpT T)).1.2) (rn + 1) X) "java/lang/UnsupportedOperationException") 1 8 A := by
  refine k_openX (own := RX3) (maxL := 6) (ret := (some .long)) (by decide) rfl rfl (Nat.le_of_ble_eq_true rfl) (fun p e s m args below meth c S hr hlk htab I ls hl => ?_)
  obtain ⟨hx, hb, hml, hown, hts⟩ := id S
  have hl : lv_has ls 6 [(0, .ref (ad 0)), (1, .int (nI k)), (2, .int b), (3, .int v)] := hl
  have hc0 : (0 : Nat) + (3 + 2 * cgF k) < 99000 := cgF_le k hk
  refine lv_iload_n hx hb dX3_run_0 rfl (lv_at hl 1 rfl) ?_
  refine k_Si (As := [.int (nI k)]) (rest := []) (w1 := rgW ad cy C N T rn X) (G := isL (nI k)) S I (c_isLevel l D cy A ad C N T rn X (nI k)) (va_cwS 1 hts (gx_L gX3_run_X3_isLevel) rfl rfl rfl (by decide +kernel) ⟨Nat.le_of_ble_eq_true rfl, Nat.le_of_ble_eq_true rfl⟩) rfl hl.1 rfl (Nat.le_of_ble_eq_true rfl) dX3_run_1 ⟨Nat.zero_le _, Nat.zero_le _⟩ (fun H locs I => ?_)
  refine lv_if_ne (tgt := 17) hx hb dX3_run_4 (by decide) (fun c_4 => ?_) (fun c_4 => ?_)
  · refine lv_aload_n hx hb dX3_run_17 rfl (lv_at hl 0 rfl) ?_
    refine lv_dup hx hb dX3_run_18 rfl ?_
    refine k_get (T := TX3) (N := 4) (ci := 3) (k := 3) (q0 := 0) (v := .int rn) S I it_X3_run_X3 rfl rfl (by decide) (List.mem_append_left _ (by decide +kernel)) rfl dX3_run_19 ?_
    refine lv_iconst (v := 1) hx hb dX3_run_22 (by decide) ?_
    refine lv_iadd hx hb dX3_run_23 ?_
    refine k_put (T := TX3) (N := 4) (ci := 3) (k := 3) (q0 := 0) (v := .int (rn + 1)) (ty := .int) (fs := [.ref (ad 1), .ref (ad 8), .ref (ad 10), .int rn]) (w1 := rgW ad cy C N T (rn + 1) X) S I it_X3_run_X3 tyX3 tyX3_ok nmX3 rfl rfl (by decide) (List.mem_append_left _ (by decide +kernel)) rfl rfl rfl rfl (Nat.le_of_ble_eq_true rfl) rfl dX3_run_24 (fun H locs I => ?_)
    refine lv_aload_n hx hb dX3_run_27 rfl (lv_at hl 0 rfl) ?_
    refine k_get (T := TX3) (N := 4) (ci := 3) (k := 1) (q0 := 0) (v := .ref (ad 8)) S I it_X3_run_X3 rfl rfl (by decide) (List.mem_append_left _ (by decide +kernel)) rfl dX3_run_28 ?_
    refine k_Vv (q0 := 8) (As := []) (rest := []) (w1 := rgW ad cy C (N.1, 0) T (rn + 1) X) S I (c_beginAnew l D cy A ad C N T (rn + 1) X) (cwV 0 hts (gx_L gX3_run_X1_beginAnew) rfl rfl rfl (by decide +kernel) ⟨Nat.le_of_ble_eq_true rfl, Nat.le_of_ble_eq_true rfl⟩) rfl rfl rfl rfl hl.1 rfl (Nat.le_of_ble_eq_true rfl) dX3_run_31 ⟨Nat.zero_le _, Nat.zero_le _⟩ (fun H locs I => ?_)
    refine lv_aload_n hx hb dX3_run_34 rfl (lv_at hl 0 rfl) ?_
    refine k_get (T := TX3) (N := 4) (ci := 3) (k := 2) (q0 := 0) (v := .ref (ad 10)) S I it_X3_run_X3 rfl rfl (by decide) (List.mem_append_left _ (by decide +kernel)) rfl dX3_run_35 ?_
    refine k_Vv (q0 := 10) (As := []) (rest := []) (w1 := rgW ad cy C (N.1, 0) (dpT T) (rn + 1) X) S I (c_drop l D cy A ad C (N.1, 0) T (rn + 1) X) (cwV 0 hts (gx_L gX3_run_X2_drop) rfl rfl rfl (by decide +kernel) ⟨Nat.le_of_ble_eq_true rfl, Nat.le_of_ble_eq_true rfl⟩) rfl rfl rfl rfl hl.1 rfl (Nat.le_of_ble_eq_true rfl) dX3_run_38 ⟨Nat.zero_le _, Nat.zero_le _⟩ (fun H locs I => ?_)
    refine lv_aload_n hx hb dX3_run_41 rfl (lv_at hl 0 rfl) ?_
    refine lv_iload_n hx hb dX3_run_42 rfl (lv_at hl 1 rfl) ?_
    refine lv_iload_n hx hb dX3_run_43 rfl (lv_at hl 2 rfl) ?_
    refine lv_iload_n hx hb dX3_run_44 rfl (lv_at hl 3 rfl) ?_
    refine k_Vl (q0 := 0) (As := [.int (nI k), .int b, .int v]) (rest := []) (w1 := rgW ad cy C ((dlF C k (gdF C k) b v ((N.1, 0), dpT T)).1.1) ((dlF C k (gdF C k) b v ((N.1, 0), dpT T)).1.2) (rn + 1) X) (G := (dlF C k (gdF C k) b v ((N.1, 0), dpT T)).2) S I ((c_down l D cy A ad C (rn + 1) X k hk).2 (N.1, 0) (dpT T) b v hc0 (Nat.zero_le _)) (cwV 3 hts (gx_L gX3_run_X3_doLevel) rfl rfl rfl (by decide +kernel) ⟨by show 16 + 10 * k + 1 ≤ 80; omega, by show 8 + (6 + 11) + (700 + 400 * k) ≤ 3000; omega⟩) rfl rfl rfl rfl hl.1 rfl (Nat.le_of_ble_eq_true rfl) dX3_run_45 ⟨Nat.zero_le _, Nat.zero_le _⟩ (fun H locs I => ?_)
    have hh := (dlF_h (C := C) (k := k) (gdF_h C k) b v ((N.1, 0), dpT T) (Nat.zero_le _)).1
    refine lv_lstore (lv' := [(4, .long ((dlF C k (gdF C k) b v ((N.1, 0), dpT T)).2)), (0, .ref (ad 0)), (1, .int (nI k)), (2, .int b), (3, .int v)]) hx hb dX3_run_48 hl (by decide) rfl (fun ls hl => ?_)
    refine lv_aload_n hx hb dX3_run_50 rfl (lv_at hl 1 rfl) ?_
    refine k_get (T := TX3) (N := 4) (ci := 3) (k := 2) (q0 := 0) (v := .ref (ad 10)) S I it_X3_run_X3 rfl rfl (by decide) (List.mem_append_left _ (by decide +kernel)) rfl dX3_run_51 ?_
    refine k_Vi (q0 := 10) (As := []) (rest := []) (w1 := rgW ad cy C ((dlF C k (gdF C k) b v ((N.1, 0), dpT T)).1.1) ((dlF C k (gdF C k) b v ((N.1, 0), dpT T)).1.2) (rn + 1) X) (G := kdT (dlF C k (gdF C k) b v ((N.1, 0), dpT T)).1.2) S I (c_kind l D cy A ad C (dlF C k (gdF C k) b v ((N.1, 0), dpT T)).1.1 (dlF C k (gdF C k) b v ((N.1, 0), dpT T)).1.2 (rn + 1) X hh) (cwV 0 hts (gx_L gX3_run_X2_kind) rfl rfl rfl (by decide +kernel) ⟨Nat.le_of_ble_eq_true rfl, Nat.le_of_ble_eq_true rfl⟩) rfl rfl rfl rfl hl.1 rfl (Nat.le_of_ble_eq_true rfl) dX3_run_54 ⟨Nat.zero_le _, Nat.zero_le _⟩ (fun H locs I => ?_)
    refine k_SX (As := [.int (kdT (dlF C k (gdF C k) b v ((N.1, 0), dpT T)).1.2)]) (rest := []) (w1 := rgW ad cy C ((dlF C k (gdF C k) b v ((N.1, 0), dpT T)).1.1) ((dlF C k (gdF C k) b v ((N.1, 0), dpT T)).1.2) (rn + 1) X) S I (c_throwOut2 l hfl D cy A ad C (dlF C k (gdF C k) b v ((N.1, 0), dpT T)).1.1 (dlF C k (gdF C k) b v ((N.1, 0), dpT T)).1.2 (rn + 1) X (kdT (dlF C k (gdF C k) b v ((N.1, 0), dpT T)).1.2) hkd) (va_cwS 1 hts (gx_S gX3_run_X3_throwOut xw_good) rfl rfl rfl (by decide +kernel) ⟨Nat.le_of_ble_eq_true rfl, Nat.le_of_ble_eq_true rfl⟩) rfl hl.1 rfl (Nat.le_of_ble_eq_true rfl) dX3_run_57 ⟨Nat.le_of_ble_eq_true rfl, Nat.le_of_ble_eq_true rfl⟩ (fun H locs ce q9 I g1 g2 g3 => ?_)
    exact k_out hlk htab I g1 g2 g3 (Nat.le_refl _) (Nat.le_refl _)
  · exact absurd (c_4.symm.trans (isL_1 hk)) (by decide)
set_option maxHeartbeats 4000000 in
set_option maxRecDepth 100000 in
/-- run, out of which kind 3 comes -/
theorem c_rrunX3 (l : Launch) (hfl : l.stackTraces = false) (D : va_G) (cy : Nat → ClassId) (A : Nat → Prop) (ad : Nat → Nat) (C : rC) (N : rN) (T : rT) (rn : Int32) (X : va_W) (k : Nat) (hk : k < 6) (b v : Int32) (hkd : kdT (dlF C k (gdF C k) b v ((N.1, 0), dpT T)).1.2 = 3) : vx_Met l yX3_run wtX3_run ({ frames := 80, cells := 1, slots := 8, locals := 3000 }) (va_Pc [.ref (ad 0), .int (nI k), .int b, .int v] (KP D cy A (rgW ad cy C N T rn X))) (va_Qv (fun (_ : Unit) => False) (fun _ _ => True) A) (KX D cy A (rgW ad cy C ((dlF C k (gdF C k) b v ((N.1, 0), dpT T)).1.1) ((dlF C k (gdF C k) b v ((N.1, 0), dpT T)).1.2) (rn + 1) X) "java/lang/ArithmeticException") 1 8 A := by
  refine k_openX (own := RX3) (maxL := 6) (ret := (some .long)) (by decide) rfl rfl (Nat.le_of_ble_eq_true rfl) (fun p e s m args below meth c S hr hlk htab I ls hl => ?_)
  obtain ⟨hx, hb, hml, hown, hts⟩ := id S
  have hl : lv_has ls 6 [(0, .ref (ad 0)), (1, .int (nI k)), (2, .int b), (3, .int v)] := hl
  have hc0 : (0 : Nat) + (3 + 2 * cgF k) < 99000 := cgF_le k hk
  refine lv_iload_n hx hb dX3_run_0 rfl (lv_at hl 1 rfl) ?_
  refine k_Si (As := [.int (nI k)]) (rest := []) (w1 := rgW ad cy C N T rn X) (G := isL (nI k)) S I (c_isLevel l D cy A ad C N T rn X (nI k)) (va_cwS 1 hts (gx_L gX3_run_X3_isLevel) rfl rfl rfl (by decide +kernel) ⟨Nat.le_of_ble_eq_true rfl, Nat.le_of_ble_eq_true rfl⟩) rfl hl.1 rfl (Nat.le_of_ble_eq_true rfl) dX3_run_1 ⟨Nat.zero_le _, Nat.zero_le _⟩ (fun H locs I => ?_)
  refine lv_if_ne (tgt := 17) hx hb dX3_run_4 (by decide) (fun c_4 => ?_) (fun c_4 => ?_)
  · refine lv_aload_n hx hb dX3_run_17 rfl (lv_at hl 0 rfl) ?_
    refine lv_dup hx hb dX3_run_18 rfl ?_
    refine k_get (T := TX3) (N := 4) (ci := 3) (k := 3) (q0 := 0) (v := .int rn) S I it_X3_run_X3 rfl rfl (by decide) (List.mem_append_left _ (by decide +kernel)) rfl dX3_run_19 ?_
    refine lv_iconst (v := 1) hx hb dX3_run_22 (by decide) ?_
    refine lv_iadd hx hb dX3_run_23 ?_
    refine k_put (T := TX3) (N := 4) (ci := 3) (k := 3) (q0 := 0) (v := .int (rn + 1)) (ty := .int) (fs := [.ref (ad 1), .ref (ad 8), .ref (ad 10), .int rn]) (w1 := rgW ad cy C N T (rn + 1) X) S I it_X3_run_X3 tyX3 tyX3_ok nmX3 rfl rfl (by decide) (List.mem_append_left _ (by decide +kernel)) rfl rfl rfl rfl (Nat.le_of_ble_eq_true rfl) rfl dX3_run_24 (fun H locs I => ?_)
    refine lv_aload_n hx hb dX3_run_27 rfl (lv_at hl 0 rfl) ?_
    refine k_get (T := TX3) (N := 4) (ci := 3) (k := 1) (q0 := 0) (v := .ref (ad 8)) S I it_X3_run_X3 rfl rfl (by decide) (List.mem_append_left _ (by decide +kernel)) rfl dX3_run_28 ?_
    refine k_Vv (q0 := 8) (As := []) (rest := []) (w1 := rgW ad cy C (N.1, 0) T (rn + 1) X) S I (c_beginAnew l D cy A ad C N T (rn + 1) X) (cwV 0 hts (gx_L gX3_run_X1_beginAnew) rfl rfl rfl (by decide +kernel) ⟨Nat.le_of_ble_eq_true rfl, Nat.le_of_ble_eq_true rfl⟩) rfl rfl rfl rfl hl.1 rfl (Nat.le_of_ble_eq_true rfl) dX3_run_31 ⟨Nat.zero_le _, Nat.zero_le _⟩ (fun H locs I => ?_)
    refine lv_aload_n hx hb dX3_run_34 rfl (lv_at hl 0 rfl) ?_
    refine k_get (T := TX3) (N := 4) (ci := 3) (k := 2) (q0 := 0) (v := .ref (ad 10)) S I it_X3_run_X3 rfl rfl (by decide) (List.mem_append_left _ (by decide +kernel)) rfl dX3_run_35 ?_
    refine k_Vv (q0 := 10) (As := []) (rest := []) (w1 := rgW ad cy C (N.1, 0) (dpT T) (rn + 1) X) S I (c_drop l D cy A ad C (N.1, 0) T (rn + 1) X) (cwV 0 hts (gx_L gX3_run_X2_drop) rfl rfl rfl (by decide +kernel) ⟨Nat.le_of_ble_eq_true rfl, Nat.le_of_ble_eq_true rfl⟩) rfl rfl rfl rfl hl.1 rfl (Nat.le_of_ble_eq_true rfl) dX3_run_38 ⟨Nat.zero_le _, Nat.zero_le _⟩ (fun H locs I => ?_)
    refine lv_aload_n hx hb dX3_run_41 rfl (lv_at hl 0 rfl) ?_
    refine lv_iload_n hx hb dX3_run_42 rfl (lv_at hl 1 rfl) ?_
    refine lv_iload_n hx hb dX3_run_43 rfl (lv_at hl 2 rfl) ?_
    refine lv_iload_n hx hb dX3_run_44 rfl (lv_at hl 3 rfl) ?_
    refine k_Vl (q0 := 0) (As := [.int (nI k), .int b, .int v]) (rest := []) (w1 := rgW ad cy C ((dlF C k (gdF C k) b v ((N.1, 0), dpT T)).1.1) ((dlF C k (gdF C k) b v ((N.1, 0), dpT T)).1.2) (rn + 1) X) (G := (dlF C k (gdF C k) b v ((N.1, 0), dpT T)).2) S I ((c_down l D cy A ad C (rn + 1) X k hk).2 (N.1, 0) (dpT T) b v hc0 (Nat.zero_le _)) (cwV 3 hts (gx_L gX3_run_X3_doLevel) rfl rfl rfl (by decide +kernel) ⟨by show 16 + 10 * k + 1 ≤ 80; omega, by show 8 + (6 + 11) + (700 + 400 * k) ≤ 3000; omega⟩) rfl rfl rfl rfl hl.1 rfl (Nat.le_of_ble_eq_true rfl) dX3_run_45 ⟨Nat.zero_le _, Nat.zero_le _⟩ (fun H locs I => ?_)
    have hh := (dlF_h (C := C) (k := k) (gdF_h C k) b v ((N.1, 0), dpT T) (Nat.zero_le _)).1
    refine lv_lstore (lv' := [(4, .long ((dlF C k (gdF C k) b v ((N.1, 0), dpT T)).2)), (0, .ref (ad 0)), (1, .int (nI k)), (2, .int b), (3, .int v)]) hx hb dX3_run_48 hl (by decide) rfl (fun ls hl => ?_)
    refine lv_aload_n hx hb dX3_run_50 rfl (lv_at hl 1 rfl) ?_
    refine k_get (T := TX3) (N := 4) (ci := 3) (k := 2) (q0 := 0) (v := .ref (ad 10)) S I it_X3_run_X3 rfl rfl (by decide) (List.mem_append_left _ (by decide +kernel)) rfl dX3_run_51 ?_
    refine k_Vi (q0 := 10) (As := []) (rest := []) (w1 := rgW ad cy C ((dlF C k (gdF C k) b v ((N.1, 0), dpT T)).1.1) ((dlF C k (gdF C k) b v ((N.1, 0), dpT T)).1.2) (rn + 1) X) (G := kdT (dlF C k (gdF C k) b v ((N.1, 0), dpT T)).1.2) S I (c_kind l D cy A ad C (dlF C k (gdF C k) b v ((N.1, 0), dpT T)).1.1 (dlF C k (gdF C k) b v ((N.1, 0), dpT T)).1.2 (rn + 1) X hh) (cwV 0 hts (gx_L gX3_run_X2_kind) rfl rfl rfl (by decide +kernel) ⟨Nat.le_of_ble_eq_true rfl, Nat.le_of_ble_eq_true rfl⟩) rfl rfl rfl rfl hl.1 rfl (Nat.le_of_ble_eq_true rfl) dX3_run_54 ⟨Nat.zero_le _, Nat.zero_le _⟩ (fun H locs I => ?_)
    refine k_SX (As := [.int (kdT (dlF C k (gdF C k) b v ((N.1, 0), dpT T)).1.2)]) (rest := []) (w1 := rgW ad cy C ((dlF C k (gdF C k) b v ((N.1, 0), dpT T)).1.1) ((dlF C k (gdF C k) b v ((N.1, 0), dpT T)).1.2) (rn + 1) X) S I (c_throwOut3 l hfl D cy A ad C (dlF C k (gdF C k) b v ((N.1, 0), dpT T)).1.1 (dlF C k (gdF C k) b v ((N.1, 0), dpT T)).1.2 (rn + 1) X (kdT (dlF C k (gdF C k) b v ((N.1, 0), dpT T)).1.2) hkd) (va_cwS 1 hts (gx_S gX3_run_X3_throwOut xw_good) rfl rfl rfl (by decide +kernel) ⟨Nat.le_of_ble_eq_true rfl, Nat.le_of_ble_eq_true rfl⟩) rfl hl.1 rfl (Nat.le_of_ble_eq_true rfl) dX3_run_57 ⟨Nat.le_of_ble_eq_true rfl, Nat.le_of_ble_eq_true rfl⟩ (fun H locs ce q9 I g1 g2 g3 => ?_)
    exact k_out hlk htab I g1 g2 g3 (Nat.le_refl _) (Nat.le_refl _)
  · exact absurd (c_4.symm.trans (isL_1 hk)) (by decide)
set_option maxHeartbeats 4000000 in
set_option maxRecDepth 100000 in
/-- run, out of which kind 4 comes -/
theorem c_rrunX4 (l : Launch) (hfl : l.stackTraces = false) (D : va_G) (cy : Nat → ClassId) (A : Nat → Prop) (ad : Nat → Nat) (C : rC) (N : rN) (T : rT) (rn : Int32) (X : va_W) (k : Nat) (hk : k < 6) (b v : Int32) (hkd : kdT (dlF C k (gdF C k) b v ((N.1, 0), dpT T)).1.2 = 4) : vx_Met l yX3_run wtX3_run ({ frames := 80, cells := 1, slots := 8, locals := 3000 }) (va_Pc [.ref (ad 0), .int (nI k), .int b, .int v] (KP D cy A (rgW ad cy C N T rn X))) (va_Qv (fun (_ : Unit) => False) (fun _ _ => True) A) (KX D cy A (rgW ad cy C ((dlF C k (gdF C k) b v ((N.1, 0), dpT T)).1.1) ((dlF C k (gdF C k) b v ((N.1, 0), dpT T)).1.2) (rn + 1) X) Bundle.nN) 1 8 A := by
  refine k_openX (own := RX3) (maxL := 6) (ret := (some .long)) (by decide) rfl rfl (Nat.le_of_ble_eq_true rfl) (fun p e s m args below meth c S hr hlk htab I ls hl => ?_)
  obtain ⟨hx, hb, hml, hown, hts⟩ := id S
  have hl : lv_has ls 6 [(0, .ref (ad 0)), (1, .int (nI k)), (2, .int b), (3, .int v)] := hl
  have hc0 : (0 : Nat) + (3 + 2 * cgF k) < 99000 := cgF_le k hk
  refine lv_iload_n hx hb dX3_run_0 rfl (lv_at hl 1 rfl) ?_
  refine k_Si (As := [.int (nI k)]) (rest := []) (w1 := rgW ad cy C N T rn X) (G := isL (nI k)) S I (c_isLevel l D cy A ad C N T rn X (nI k)) (va_cwS 1 hts (gx_L gX3_run_X3_isLevel) rfl rfl rfl (by decide +kernel) ⟨Nat.le_of_ble_eq_true rfl, Nat.le_of_ble_eq_true rfl⟩) rfl hl.1 rfl (Nat.le_of_ble_eq_true rfl) dX3_run_1 ⟨Nat.zero_le _, Nat.zero_le _⟩ (fun H locs I => ?_)
  refine lv_if_ne (tgt := 17) hx hb dX3_run_4 (by decide) (fun c_4 => ?_) (fun c_4 => ?_)
  · refine lv_aload_n hx hb dX3_run_17 rfl (lv_at hl 0 rfl) ?_
    refine lv_dup hx hb dX3_run_18 rfl ?_
    refine k_get (T := TX3) (N := 4) (ci := 3) (k := 3) (q0 := 0) (v := .int rn) S I it_X3_run_X3 rfl rfl (by decide) (List.mem_append_left _ (by decide +kernel)) rfl dX3_run_19 ?_
    refine lv_iconst (v := 1) hx hb dX3_run_22 (by decide) ?_
    refine lv_iadd hx hb dX3_run_23 ?_
    refine k_put (T := TX3) (N := 4) (ci := 3) (k := 3) (q0 := 0) (v := .int (rn + 1)) (ty := .int) (fs := [.ref (ad 1), .ref (ad 8), .ref (ad 10), .int rn]) (w1 := rgW ad cy C N T (rn + 1) X) S I it_X3_run_X3 tyX3 tyX3_ok nmX3 rfl rfl (by decide) (List.mem_append_left _ (by decide +kernel)) rfl rfl rfl rfl (Nat.le_of_ble_eq_true rfl) rfl dX3_run_24 (fun H locs I => ?_)
    refine lv_aload_n hx hb dX3_run_27 rfl (lv_at hl 0 rfl) ?_
    refine k_get (T := TX3) (N := 4) (ci := 3) (k := 1) (q0 := 0) (v := .ref (ad 8)) S I it_X3_run_X3 rfl rfl (by decide) (List.mem_append_left _ (by decide +kernel)) rfl dX3_run_28 ?_
    refine k_Vv (q0 := 8) (As := []) (rest := []) (w1 := rgW ad cy C (N.1, 0) T (rn + 1) X) S I (c_beginAnew l D cy A ad C N T (rn + 1) X) (cwV 0 hts (gx_L gX3_run_X1_beginAnew) rfl rfl rfl (by decide +kernel) ⟨Nat.le_of_ble_eq_true rfl, Nat.le_of_ble_eq_true rfl⟩) rfl rfl rfl rfl hl.1 rfl (Nat.le_of_ble_eq_true rfl) dX3_run_31 ⟨Nat.zero_le _, Nat.zero_le _⟩ (fun H locs I => ?_)
    refine lv_aload_n hx hb dX3_run_34 rfl (lv_at hl 0 rfl) ?_
    refine k_get (T := TX3) (N := 4) (ci := 3) (k := 2) (q0 := 0) (v := .ref (ad 10)) S I it_X3_run_X3 rfl rfl (by decide) (List.mem_append_left _ (by decide +kernel)) rfl dX3_run_35 ?_
    refine k_Vv (q0 := 10) (As := []) (rest := []) (w1 := rgW ad cy C (N.1, 0) (dpT T) (rn + 1) X) S I (c_drop l D cy A ad C (N.1, 0) T (rn + 1) X) (cwV 0 hts (gx_L gX3_run_X2_drop) rfl rfl rfl (by decide +kernel) ⟨Nat.le_of_ble_eq_true rfl, Nat.le_of_ble_eq_true rfl⟩) rfl rfl rfl rfl hl.1 rfl (Nat.le_of_ble_eq_true rfl) dX3_run_38 ⟨Nat.zero_le _, Nat.zero_le _⟩ (fun H locs I => ?_)
    refine lv_aload_n hx hb dX3_run_41 rfl (lv_at hl 0 rfl) ?_
    refine lv_iload_n hx hb dX3_run_42 rfl (lv_at hl 1 rfl) ?_
    refine lv_iload_n hx hb dX3_run_43 rfl (lv_at hl 2 rfl) ?_
    refine lv_iload_n hx hb dX3_run_44 rfl (lv_at hl 3 rfl) ?_
    refine k_Vl (q0 := 0) (As := [.int (nI k), .int b, .int v]) (rest := []) (w1 := rgW ad cy C ((dlF C k (gdF C k) b v ((N.1, 0), dpT T)).1.1) ((dlF C k (gdF C k) b v ((N.1, 0), dpT T)).1.2) (rn + 1) X) (G := (dlF C k (gdF C k) b v ((N.1, 0), dpT T)).2) S I ((c_down l D cy A ad C (rn + 1) X k hk).2 (N.1, 0) (dpT T) b v hc0 (Nat.zero_le _)) (cwV 3 hts (gx_L gX3_run_X3_doLevel) rfl rfl rfl (by decide +kernel) ⟨by show 16 + 10 * k + 1 ≤ 80; omega, by show 8 + (6 + 11) + (700 + 400 * k) ≤ 3000; omega⟩) rfl rfl rfl rfl hl.1 rfl (Nat.le_of_ble_eq_true rfl) dX3_run_45 ⟨Nat.zero_le _, Nat.zero_le _⟩ (fun H locs I => ?_)
    have hh := (dlF_h (C := C) (k := k) (gdF_h C k) b v ((N.1, 0), dpT T) (Nat.zero_le _)).1
    refine lv_lstore (lv' := [(4, .long ((dlF C k (gdF C k) b v ((N.1, 0), dpT T)).2)), (0, .ref (ad 0)), (1, .int (nI k)), (2, .int b), (3, .int v)]) hx hb dX3_run_48 hl (by decide) rfl (fun ls hl => ?_)
    refine lv_aload_n hx hb dX3_run_50 rfl (lv_at hl 1 rfl) ?_
    refine k_get (T := TX3) (N := 4) (ci := 3) (k := 2) (q0 := 0) (v := .ref (ad 10)) S I it_X3_run_X3 rfl rfl (by decide) (List.mem_append_left _ (by decide +kernel)) rfl dX3_run_51 ?_
    refine k_Vi (q0 := 10) (As := []) (rest := []) (w1 := rgW ad cy C ((dlF C k (gdF C k) b v ((N.1, 0), dpT T)).1.1) ((dlF C k (gdF C k) b v ((N.1, 0), dpT T)).1.2) (rn + 1) X) (G := kdT (dlF C k (gdF C k) b v ((N.1, 0), dpT T)).1.2) S I (c_kind l D cy A ad C (dlF C k (gdF C k) b v ((N.1, 0), dpT T)).1.1 (dlF C k (gdF C k) b v ((N.1, 0), dpT T)).1.2 (rn + 1) X hh) (cwV 0 hts (gx_L gX3_run_X2_kind) rfl rfl rfl (by decide +kernel) ⟨Nat.le_of_ble_eq_true rfl, Nat.le_of_ble_eq_true rfl⟩) rfl rfl rfl rfl hl.1 rfl (Nat.le_of_ble_eq_true rfl) dX3_run_54 ⟨Nat.zero_le _, Nat.zero_le _⟩ (fun H locs I => ?_)
    refine k_SX (As := [.int (kdT (dlF C k (gdF C k) b v ((N.1, 0), dpT T)).1.2)]) (rest := []) (w1 := rgW ad cy C ((dlF C k (gdF C k) b v ((N.1, 0), dpT T)).1.1) ((dlF C k (gdF C k) b v ((N.1, 0), dpT T)).1.2) (rn + 1) X) S I (c_throwOut4 l hfl D cy A ad C (dlF C k (gdF C k) b v ((N.1, 0), dpT T)).1.1 (dlF C k (gdF C k) b v ((N.1, 0), dpT T)).1.2 (rn + 1) X (kdT (dlF C k (gdF C k) b v ((N.1, 0), dpT T)).1.2) hkd) (va_cwS 1 hts (gx_S gX3_run_X3_throwOut xw_good) rfl rfl rfl (by decide +kernel) ⟨Nat.le_of_ble_eq_true rfl, Nat.le_of_ble_eq_true rfl⟩) rfl hl.1 rfl (Nat.le_of_ble_eq_true rfl) dX3_run_57 ⟨Nat.le_of_ble_eq_true rfl, Nat.le_of_ble_eq_true rfl⟩ (fun H locs ce q9 I g1 g2 g3 => ?_)
    exact k_out hlk htab I g1 g2 g3 (Nat.le_refl _) (Nat.le_refl _)
  · exact absurd (c_4.symm.trans (isL_1 hk)) (by decide)
set_option maxHeartbeats 4000000 in
set_option maxRecDepth 100000 in
/-- run, out of which kind 5 comes -/
theorem c_rrunX5 (l : Launch) (hfl : l.stackTraces = false) (D : va_G) (cy : Nat → ClassId) (A : Nat → Prop) (ad : Nat → Nat) (C : rC) (N : rN) (T : rT) (rn : Int32) (X : va_W) (k : Nat) (hk : k < 6) (b v : Int32) (hkd : kdT (dlF C k (gdF C k) b v ((N.1, 0), dpT T)).1.2 = 5) : vx_Met l yX3_run wtX3_run ({ frames := 80, cells := 1, slots := 8, locals := 3000 }) (va_Pc [.ref (ad 0), .int (nI k), .int b, .int v] (KP D cy A (rgW ad cy C N T rn X))) (va_Qv (fun (_ : Unit) => False) (fun _ _ => True) A) (KX D cy A (rgW ad cy C ((dlF C k (gdF C k) b v ((N.1, 0), dpT T)).1.1) ((dlF C k (gdF C k) b v ((N.1, 0), dpT T)).1.2) (rn + 1) X) "java/lang/ArrayIndexOutOfBoundsException") 1 8 A := by
  refine k_openX (own := RX3) (maxL := 6) (ret := (some .long)) (by decide) rfl rfl (Nat.le_of_ble_eq_true rfl) (fun p e s m args below meth c S hr hlk htab I ls hl => ?_)
  obtain ⟨hx, hb, hml, hown, hts⟩ := id S
  have hl : lv_has ls 6 [(0, .ref (ad 0)), (1, .int (nI k)), (2, .int b), (3, .int v)] := hl
  have hc0 : (0 : Nat) + (3 + 2 * cgF k) < 99000 := cgF_le k hk
  refine lv_iload_n hx hb dX3_run_0 rfl (lv_at hl 1 rfl) ?_
  refine k_Si (As := [.int (nI k)]) (rest := []) (w1 := rgW ad cy C N T rn X) (G := isL (nI k)) S I (c_isLevel l D cy A ad C N T rn X (nI k)) (va_cwS 1 hts (gx_L gX3_run_X3_isLevel) rfl rfl rfl (by decide +kernel) ⟨Nat.le_of_ble_eq_true rfl, Nat.le_of_ble_eq_true rfl⟩) rfl hl.1 rfl (Nat.le_of_ble_eq_true rfl) dX3_run_1 ⟨Nat.zero_le _, Nat.zero_le _⟩ (fun H locs I => ?_)
  refine lv_if_ne (tgt := 17) hx hb dX3_run_4 (by decide) (fun c_4 => ?_) (fun c_4 => ?_)
  · refine lv_aload_n hx hb dX3_run_17 rfl (lv_at hl 0 rfl) ?_
    refine lv_dup hx hb dX3_run_18 rfl ?_
    refine k_get (T := TX3) (N := 4) (ci := 3) (k := 3) (q0 := 0) (v := .int rn) S I it_X3_run_X3 rfl rfl (by decide) (List.mem_append_left _ (by decide +kernel)) rfl dX3_run_19 ?_
    refine lv_iconst (v := 1) hx hb dX3_run_22 (by decide) ?_
    refine lv_iadd hx hb dX3_run_23 ?_
    refine k_put (T := TX3) (N := 4) (ci := 3) (k := 3) (q0 := 0) (v := .int (rn + 1)) (ty := .int) (fs := [.ref (ad 1), .ref (ad 8), .ref (ad 10), .int rn]) (w1 := rgW ad cy C N T (rn + 1) X) S I it_X3_run_X3 tyX3 tyX3_ok nmX3 rfl rfl (by decide) (List.mem_append_left _ (by decide +kernel)) rfl rfl rfl rfl (Nat.le_of_ble_eq_true rfl) rfl dX3_run_24 (fun H locs I => ?_)
    refine lv_aload_n hx hb dX3_run_27 rfl (lv_at hl 0 rfl) ?_
    refine k_get (T := TX3) (N := 4) (ci := 3) (k := 1) (q0 := 0) (v := .ref (ad 8)) S I it_X3_run_X3 rfl rfl (by decide) (List.mem_append_left _ (by decide +kernel)) rfl dX3_run_28 ?_
    refine k_Vv (q0 := 8) (As := []) (rest := []) (w1 := rgW ad cy C (N.1, 0) T (rn + 1) X) S I (c_beginAnew l D cy A ad C N T (rn + 1) X) (cwV 0 hts (gx_L gX3_run_X1_beginAnew) rfl rfl rfl (by decide +kernel) ⟨Nat.le_of_ble_eq_true rfl, Nat.le_of_ble_eq_true rfl⟩) rfl rfl rfl rfl hl.1 rfl (Nat.le_of_ble_eq_true rfl) dX3_run_31 ⟨Nat.zero_le _, Nat.zero_le _⟩ (fun H locs I => ?_)
    refine lv_aload_n hx hb dX3_run_34 rfl (lv_at hl 0 rfl) ?_
    refine k_get (T := TX3) (N := 4) (ci := 3) (k := 2) (q0 := 0) (v := .ref (ad 10)) S I it_X3_run_X3 rfl rfl (by decide) (List.mem_append_left _ (by decide +kernel)) rfl dX3_run_35 ?_
    refine k_Vv (q0 := 10) (As := []) (rest := []) (w1 := rgW ad cy C (N.1, 0) (dpT T) (rn + 1) X) S I (c_drop l D cy A ad C (N.1, 0) T (rn + 1) X) (cwV 0 hts (gx_L gX3_run_X2_drop) rfl rfl rfl (by decide +kernel) ⟨Nat.le_of_ble_eq_true rfl, Nat.le_of_ble_eq_true rfl⟩) rfl rfl rfl rfl hl.1 rfl (Nat.le_of_ble_eq_true rfl) dX3_run_38 ⟨Nat.zero_le _, Nat.zero_le _⟩ (fun H locs I => ?_)
    refine lv_aload_n hx hb dX3_run_41 rfl (lv_at hl 0 rfl) ?_
    refine lv_iload_n hx hb dX3_run_42 rfl (lv_at hl 1 rfl) ?_
    refine lv_iload_n hx hb dX3_run_43 rfl (lv_at hl 2 rfl) ?_
    refine lv_iload_n hx hb dX3_run_44 rfl (lv_at hl 3 rfl) ?_
    refine k_Vl (q0 := 0) (As := [.int (nI k), .int b, .int v]) (rest := []) (w1 := rgW ad cy C ((dlF C k (gdF C k) b v ((N.1, 0), dpT T)).1.1) ((dlF C k (gdF C k) b v ((N.1, 0), dpT T)).1.2) (rn + 1) X) (G := (dlF C k (gdF C k) b v ((N.1, 0), dpT T)).2) S I ((c_down l D cy A ad C (rn + 1) X k hk).2 (N.1, 0) (dpT T) b v hc0 (Nat.zero_le _)) (cwV 3 hts (gx_L gX3_run_X3_doLevel) rfl rfl rfl (by decide +kernel) ⟨by show 16 + 10 * k + 1 ≤ 80; omega, by show 8 + (6 + 11) + (700 + 400 * k) ≤ 3000; omega⟩) rfl rfl rfl rfl hl.1 rfl (Nat.le_of_ble_eq_true rfl) dX3_run_45 ⟨Nat.zero_le _, Nat.zero_le _⟩ (fun H locs I => ?_)
    have hh := (dlF_h (C := C) (k := k) (gdF_h C k) b v ((N.1, 0), dpT T) (Nat.zero_le _)).1
    refine lv_lstore (lv' := [(4, .long ((dlF C k (gdF C k) b v ((N.1, 0), dpT T)).2)), (0, .ref (ad 0)), (1, .int (nI k)), (2, .int b), (3, .int v)]) hx hb dX3_run_48 hl (by decide) rfl (fun ls hl => ?_)
    refine lv_aload_n hx hb dX3_run_50 rfl (lv_at hl 1 rfl) ?_
    refine k_get (T := TX3) (N := 4) (ci := 3) (k := 2) (q0 := 0) (v := .ref (ad 10)) S I it_X3_run_X3 rfl rfl (by decide) (List.mem_append_left _ (by decide +kernel)) rfl dX3_run_51 ?_
    refine k_Vi (q0 := 10) (As := []) (rest := []) (w1 := rgW ad cy C ((dlF C k (gdF C k) b v ((N.1, 0), dpT T)).1.1) ((dlF C k (gdF C k) b v ((N.1, 0), dpT T)).1.2) (rn + 1) X) (G := kdT (dlF C k (gdF C k) b v ((N.1, 0), dpT T)).1.2) S I (c_kind l D cy A ad C (dlF C k (gdF C k) b v ((N.1, 0), dpT T)).1.1 (dlF C k (gdF C k) b v ((N.1, 0), dpT T)).1.2 (rn + 1) X hh) (cwV 0 hts (gx_L gX3_run_X2_kind) rfl rfl rfl (by decide +kernel) ⟨Nat.le_of_ble_eq_true rfl, Nat.le_of_ble_eq_true rfl⟩) rfl rfl rfl rfl hl.1 rfl (Nat.le_of_ble_eq_true rfl) dX3_run_54 ⟨Nat.zero_le _, Nat.zero_le _⟩ (fun H locs I => ?_)
    refine k_SX (As := [.int (kdT (dlF C k (gdF C k) b v ((N.1, 0), dpT T)).1.2)]) (rest := []) (w1 := rgW ad cy C ((dlF C k (gdF C k) b v ((N.1, 0), dpT T)).1.1) ((dlF C k (gdF C k) b v ((N.1, 0), dpT T)).1.2) (rn + 1) X) S I (c_throwOut5 l hfl D cy A ad C (dlF C k (gdF C k) b v ((N.1, 0), dpT T)).1.1 (dlF C k (gdF C k) b v ((N.1, 0), dpT T)).1.2 (rn + 1) X (kdT (dlF C k (gdF C k) b v ((N.1, 0), dpT T)).1.2) hkd) (va_cwS 1 hts (gx_S gX3_run_X3_throwOut xw_good) rfl rfl rfl (by decide +kernel) ⟨Nat.le_of_ble_eq_true rfl, Nat.le_of_ble_eq_true rfl⟩) rfl hl.1 rfl (Nat.le_of_ble_eq_true rfl) dX3_run_57 ⟨Nat.le_of_ble_eq_true rfl, Nat.le_of_ble_eq_true rfl⟩ (fun H locs ce q9 I g1 g2 g3 => ?_)
    exact k_out hlk htab I g1 g2 g3 (Nat.le_refl _) (Nat.le_refl _)
  · exact absurd (c_4.symm.trans (isL_1 hk)) (by decide)
