/-! THE RIG: the recursion, laid by wip/whole/rig2.py -/
/-- the way down from level k, as a contract for every state -/
def rGD (l : Launch) (D : va_G) (cy : Nat → ClassId) (A : Nat → Prop) (ad : Nat → Nat) (C : rC) (rn : Int32) (X : va_W) (k : Nat) : Prop := ∀ (N : rN) (T : rT) (b v : Int32), N.2 + cgF k < 99000 → T.2.2 ≤ 7 →
  Met l yX3_goDown wsX3_goDown ({ frames := 10 + 10 * k, cells := 0, slots := 0, locals := 400 + 400 * k }) (va_Pc [.ref (ad 0), .int (nI k), .int b, .int v] (KP D cy A (rgW ad cy C N T rn X))) (va_Ql (fun (r : Int64) (_ : Unit) => r = (gdF C k b v (N, T)).2) (fun _ => KB D cy A (rgW ad cy C (gdF C k b v (N, T)).1.1 (gdF C k b v (N, T)).1.2 rn X)) A) 0 0 A
/-- what level k does -/
def rDL (l : Launch) (D : va_G) (cy : Nat → ClassId) (A : Nat → Prop) (ad : Nat → Nat) (C : rC) (rn : Int32) (X : va_W) (k : Nat) : Prop := ∀ (N : rN) (T : rT) (b v : Int32), N.2 + (3 + 2 * cgF k) < 99000 → T.2.2 ≤ 7 →
  Met l yX3_doLevel wsX3_doLevel ({ frames := 16 + 10 * k, cells := 0, slots := 0, locals := 700 + 400 * k }) (va_Pc [.ref (ad 0), .int (nI k), .int b, .int v] (KP D cy A (rgW ad cy C N T rn X))) (va_Ql (fun (r : Int64) (_ : Unit) => r = (dlF C k (gdF C k) b v (N, T)).2) (fun _ => KB D cy A (rgW ad cy C (dlF C k (gdF C k) b v (N, T)).1.1 (dlF C k (gdF C k) b v (N, T)).1.2 rn X)) A) 0 0 A
theorem in_X3_doThen_X0 : ∀ w ∈ u_ws RX0 TX0 4, w ∈ wsX3_doThen := by decide +kernel
theorem in_X3_doThen_X3 : ∀ w ∈ u_ws RX3 TX3 4, w ∈ wsX3_doThen := by decide +kernel
set_option maxHeartbeats 4000000 in
set_option maxRecDepth 100000 in
/-- doThen, the way down given -/
theorem c_doThen (l : Launch) (D : va_G) (cy : Nat → ClassId) (A : Nat → Prop) (ad : Nat → Nat) (C : rC) (N : rN) (T : rT) (rn : Int32) (X : va_W) (k : Nat) (hk : k < 6) (hG : rGD l D cy A ad C rn X k) (hN : N.2 + (1 + cgF k) < 99000) (hT : T.2.2 ≤ 7) : Met l yX3_doThen wsX3_doThen ({ frames := 13 + 10 * k, cells := 0, slots := 0, locals := 550 + 400 * k }) (va_Pc [.ref (ad 0), .int (nI k)] (KP D cy A (rgW ad cy C N T rn X))) (va_Ql (fun (r : Int64) (_ : Unit) => r = (thF C k (gdF C k) (N, T)).2) (fun _ => KB D cy A (rgW ad cy C ((thF C k (gdF C k) (N, T)).1.1) ((thF C k (gdF C k) (N, T)).1.2) rn X)) A) 0 0 A := by
  refine k_open (own := RX3) (maxL := 3) (ret := (some .long)) (by decide) rfl rfl (Nat.le_of_ble_eq_true rfl) (fun p e s m args below meth c S hr hlk I ls hl => ?_)
  obtain ⟨hx, hb, hml, hown, hts⟩ := id S
  have hl : lv_has ls 3 [(0, .ref (ad 0)), (1, .int (nI k))] := hl
  refine lv_aload_n hx hb dX3_doThen_0 rfl (lv_at hl 0 rfl) ?_
  refine k_get (T := TX3) (N := 4) (ci := 3) (k := 0) (q0 := 0) (v := .ref (ad 1)) S I in_X3_doThen_X3 rfl rfl (by decide) (by decide +kernel) rfl dX3_doThen_1 ?_
  refine lv_iload_n hx hb dX3_doThen_4 rfl (lv_at hl 1 rfl) ?_
  refine k_aald (q0 := 1) (t0 := 0) (j := k) (b := ad (2 + k)) S I rfl rfl hk (by decide) rfl (lvF_at hk) dX3_doThen_5 ?_
  refine k_getN (T := TX0) (N := 4) (ci := 0) (k := 3) (q0 := (2 + k)) (v := .int (C.2.2.2 k)) S I in_X3_doThen_X0 (rgW_lv hk) rfl (by decide) I.2.1.1.2.2.2.2.2 rfl dX3_doThen_6 ?_
  refine lv_istore_n (lv' := [(2, .int (C.2.2.2 k)), (0, .ref (ad 0)), (1, .int (nI k))]) hx hb dX3_doThen_9 rfl hl (by decide) rfl (fun ls hl => ?_)
  refine lv_aload_n hx hb dX3_doThen_10 rfl (lv_at hl 1 rfl) ?_
  refine k_get (T := TX3) (N := 4) (ci := 3) (k := 1) (q0 := 0) (v := .ref (ad 8)) S I in_X3_doThen_X3 rfl rfl (by decide) (by decide +kernel) rfl dX3_doThen_11 ?_
  refine lv_bipush (v := 100) hx hb dX3_doThen_14 (by decide) ?_
  refine lv_aload_n hx hb dX3_doThen_16 rfl (lv_at hl 1 rfl) ?_
  refine k_get (T := TX3) (N := 4) (ci := 3) (k := 2) (q0 := 0) (v := .ref (ad 10)) S I in_X3_doThen_X3 rfl rfl (by decide) (by decide +kernel) rfl dX3_doThen_17 ?_
  refine k_Vi (q0 := 10) (As := []) (rest := [.int 100, .ref (ad 8)]) (w1 := rgW ad cy C N T rn X) (G := kdT T) S I (c_kind l D cy A ad C N T rn X hT) (cwV 0 hts gX3_doThen_X2_kind rfl rfl rfl (by decide +kernel) ⟨by show 0 + 1 ≤ 13 + 10 * k; omega, by show 8 + (1 + 11) + 0 ≤ 550 + 400 * k; omega⟩) rfl rfl rfl rfl hl.1 rfl (Nat.le_of_ble_eq_true rfl) dX3_doThen_20 ⟨Nat.zero_le _, Nat.zero_le _⟩ (fun H locs I => ?_)
  refine lv_imul hx hb dX3_doThen_23 ?_
  refine lv_iload_n hx hb dX3_doThen_24 rfl (lv_at hl 2 rfl) ?_
  refine lv_iadd hx hb dX3_doThen_25 ?_
  refine k_Vv (q0 := 8) (As := [.int ((100 * (kdT T)) + (nI k))]) (rest := []) (w1 := rgW ad cy C (nt N (100 * kdT T + nI k)) T rn X) S I (c_add l D cy A ad C N T rn X (by omega) (100 * kdT T + nI k)) (cwV 1 hts gX3_doThen_X1_add rfl rfl rfl (by decide +kernel) ⟨by show 0 + 1 ≤ 13 + 10 * k; omega, by show 8 + (2 + 11) + 0 ≤ 550 + 400 * k; omega⟩) rfl rfl rfl rfl hl.1 rfl (Nat.le_of_ble_eq_true rfl) dX3_doThen_26 ⟨Nat.zero_le _, Nat.zero_le _⟩ (fun H locs I => ?_)
  refine lv_aload_n hx hb dX3_doThen_29 rfl (lv_at hl 1 rfl) ?_
  refine k_get (T := TX3) (N := 4) (ci := 3) (k := 0) (q0 := 0) (v := .ref (ad 1)) S I in_X3_doThen_X3 rfl rfl (by decide) (by decide +kernel) rfl dX3_doThen_30 ?_
  refine lv_iload_n hx hb dX3_doThen_33 rfl (lv_at hl 2 rfl) ?_
  refine k_aald (q0 := 1) (t0 := 0) (j := k) (b := ad (2 + k)) S I rfl rfl hk (by decide) rfl (lvF_at hk) dX3_doThen_34 ?_
  refine k_getN (T := TX0) (N := 4) (ci := 0) (k := 1) (q0 := (2 + k)) (v := .int (C.2.1 k)) S I in_X3_doThen_X0 (rgW_lv hk) rfl (by decide) I.2.1.1.2.2.2.1 rfl dX3_doThen_35 ?_
  rcases k_sw04 (C.2.1 k) with c_38 | c_38 | c_38 | c_38 | c_38 | c_38
  · refine lv_tableOut (tgt := 113) hx hb dX3_doThen_38 c_38 (by decide) ?_
    refine lv_aload_n hx hb dX3_doThen_113 rfl (lv_at hl 1 rfl) ?_
    refine k_get (T := TX3) (N := 4) (ci := 3) (k := 2) (q0 := 0) (v := .ref (ad 10)) S I in_X3_doThen_X3 rfl rfl (by decide) (by decide +kernel) rfl dX3_doThen_114 ?_
    refine k_Vv (q0 := 10) (As := []) (rest := []) (w1 := rgW ad cy C (nt N (100 * kdT T + nI k)) (dpT T) rn X) S I (c_drop l D cy A ad C (nt N (100 * kdT T + nI k)) T rn X) (cwV 0 hts gX3_doThen_X2_drop rfl rfl rfl (by decide +kernel) ⟨by show 0 + 1 ≤ 13 + 10 * k; omega, by show 8 + (1 + 11) + 0 ≤ 550 + 400 * k; omega⟩) rfl rfl rfl rfl hl.1 rfl (Nat.le_of_ble_eq_true rfl) dX3_doThen_117 ⟨Nat.zero_le _, Nat.zero_le _⟩ (fun H locs I => ?_)
    refine lv_aload_n hx hb dX3_doThen_120 rfl (lv_at hl 1 rfl) ?_
    refine lv_iload_n hx hb dX3_doThen_121 rfl (lv_at hl 2 rfl) ?_
    refine lv_iconst (v := 0) hx hb dX3_doThen_122 (by decide) ?_
    refine lv_iload_n hx hb dX3_doThen_123 rfl (lv_at hl 0 rfl) ?_
    refine k_Vl (q0 := 0) (As := [.int (nI k), .int 0, .int (C.2.2.2 k)]) (rest := []) (w1 := rgW ad cy C ((gdF C k 0 (C.2.2.2 k) (nt N (100 * kdT T + nI k), dpT T)).1.1) ((gdF C k 0 (C.2.2.2 k) (nt N (100 * kdT T + nI k), dpT T)).1.2) rn X) (G := (gdF C k 0 (C.2.2.2 k) (nt N (100 * kdT T + nI k), dpT T)).2) S I (hG (nt N (100 * kdT T + nI k)) (dpT T) 0 (C.2.2.2 k) (by rw [nt_2]; omega) (Nat.zero_le _)) (cwV 3 hts gX3_doThen_X3_goDown rfl rfl rfl (by decide +kernel) ⟨by show 10 + 10 * k + 1 ≤ 13 + 10 * k; omega, by show 8 + (4 + 11) + (400 + 400 * k) ≤ 550 + 400 * k; omega⟩) rfl rfl rfl rfl hl.1 rfl (Nat.le_of_ble_eq_true rfl) dX3_doThen_124 ⟨Nat.zero_le _, Nat.zero_le _⟩ (fun H locs I => ?_)
    have e : thF C k (gdF C k) (N, T) = (gdF C k 0 (C.2.2.2 k) (nt N (100 * kdT T + nI k), dpT T)) := by unfold thF; dsimp only; rw [if_neg (k_ne c_38 (by decide)), if_neg (k_ne c_38 (by decide)), if_neg (k_ne c_38 (by decide)), if_neg (k_ne c_38 (by decide)), if_neg (k_ne c_38 (by decide))]
    exact k_lret S hr hlk I (by rw [e]) (by rw [e]) dX3_doThen_127
  · refine lv_tableIn (tgt := 72) hx hb dX3_doThen_38 (by rw [c_38]; decide) (by rw [c_38]; decide) (by rw [c_38]; rfl) (by decide) ?_
    refine lv_aload_n hx hb dX3_doThen_72 rfl (lv_at hl 1 rfl) ?_
    refine k_get (T := TX3) (N := 4) (ci := 3) (k := 2) (q0 := 0) (v := .ref (ad 10)) S I in_X3_doThen_X3 rfl rfl (by decide) (by decide +kernel) rfl dX3_doThen_73 ?_
    refine k_Vv (q0 := 10) (As := []) (rest := []) (w1 := rgW ad cy C (nt N (100 * kdT T + nI k)) (dpT T) rn X) S I (c_drop l D cy A ad C (nt N (100 * kdT T + nI k)) T rn X) (cwV 0 hts gX3_doThen_X2_drop rfl rfl rfl (by decide +kernel) ⟨by show 0 + 1 ≤ 13 + 10 * k; omega, by show 8 + (1 + 11) + 0 ≤ 550 + 400 * k; omega⟩) rfl rfl rfl rfl hl.1 rfl (Nat.le_of_ble_eq_true rfl) dX3_doThen_76 ⟨Nat.zero_le _, Nat.zero_le _⟩ (fun H locs I => ?_)
    refine lv_iload_n hx hb dX3_doThen_79 rfl (lv_at hl 0 rfl) ?_
    refine lv_i2l (v := (C.2.2.2 k).toInt64) hx hb dX3_doThen_80 rfl ?_
    have e : thF C k (gdF C k) (N, T) = ((nt N (100 * kdT T + nI k), dpT T), (C.2.2.2 k).toInt64) := by unfold thF; dsimp only; rw [if_pos c_38]
    exact k_lret S hr hlk I (by rw [e]) (by rw [e]) dX3_doThen_81
  · refine lv_tableIn (tgt := 82) hx hb dX3_doThen_38 (by rw [c_38]; decide) (by rw [c_38]; decide) (by rw [c_38]; rfl) (by decide) ?_
    refine lv_lconst (v := 0) hx hb dX3_doThen_82 (by decide) ?_
    have e : thF C k (gdF C k) (N, T) = ((nt N (100 * kdT T + nI k), T), 0) := by unfold thF; dsimp only; rw [if_neg (by rw [c_38]; decide), if_pos c_38]
    exact k_lret S hr hlk I (by rw [e]) (by rw [e]) dX3_doThen_83
  · refine lv_tableIn (tgt := 84) hx hb dX3_doThen_38 (by rw [c_38]; decide) (by rw [c_38]; decide) (by rw [c_38]; rfl) (by decide) ?_
    refine lv_aload_n hx hb dX3_doThen_84 rfl (lv_at hl 1 rfl) ?_
    refine k_get (T := TX3) (N := 4) (ci := 3) (k := 2) (q0 := 0) (v := .ref (ad 10)) S I in_X3_doThen_X3 rfl rfl (by decide) (by decide +kernel) rfl dX3_doThen_85 ?_
    refine lv_iconst (v := 1) hx hb dX3_doThen_88 (by decide) ?_
    refine lv_iload_n hx hb dX3_doThen_89 rfl (lv_at hl 0 rfl) ?_
    refine k_Vv (q0 := 10) (As := [.int 1, .int (C.2.2.2 k)]) (rest := []) (w1 := rgW ad cy C (nt N (100 * kdT T + nI k)) (wpT T 1 (C.2.2.2 k)) rn X) S I (c_wrap l D cy A ad C (nt N (100 * kdT T + nI k)) T rn X hT 1 (C.2.2.2 k)) (cwV 2 hts gX3_doThen_X2_wrap rfl rfl rfl (by decide +kernel) ⟨by show 0 + 1 ≤ 13 + 10 * k; omega, by show 8 + (3 + 11) + 0 ≤ 550 + 400 * k; omega⟩) rfl rfl rfl rfl hl.1 rfl (Nat.le_of_ble_eq_true rfl) dX3_doThen_90 ⟨Nat.zero_le _, Nat.zero_le _⟩ (fun H locs I => ?_)
    refine lv_lconst (v := 0) hx hb dX3_doThen_93 (by decide) ?_
    have e : thF C k (gdF C k) (N, T) = ((nt N (100 * kdT T + nI k), wpT T 1 (C.2.2.2 k)), 0) := by unfold thF; dsimp only; rw [if_neg (by rw [c_38]; decide), if_neg (by rw [c_38]; decide), if_pos c_38]
    exact k_lret S hr hlk I (by rw [e]) (by rw [e]) dX3_doThen_94
  · refine lv_tableIn (tgt := 95) hx hb dX3_doThen_38 (by rw [c_38]; decide) (by rw [c_38]; decide) (by rw [c_38]; rfl) (by decide) ?_
    refine lv_aload_n hx hb dX3_doThen_95 rfl (lv_at hl 1 rfl) ?_
    refine k_get (T := TX3) (N := 4) (ci := 3) (k := 2) (q0 := 0) (v := .ref (ad 10)) S I in_X3_doThen_X3 rfl rfl (by decide) (by decide +kernel) rfl dX3_doThen_96 ?_
    refine lv_iconst (v := 2) hx hb dX3_doThen_99 (by decide) ?_
    refine lv_iload_n hx hb dX3_doThen_100 rfl (lv_at hl 0 rfl) ?_
    refine k_Vv (q0 := 10) (As := [.int 2, .int (C.2.2.2 k)]) (rest := []) (w1 := rgW ad cy C (nt N (100 * kdT T + nI k)) (wpT T 2 (C.2.2.2 k)) rn X) S I (c_wrap l D cy A ad C (nt N (100 * kdT T + nI k)) T rn X hT 2 (C.2.2.2 k)) (cwV 2 hts gX3_doThen_X2_wrap rfl rfl rfl (by decide +kernel) ⟨by show 0 + 1 ≤ 13 + 10 * k; omega, by show 8 + (3 + 11) + 0 ≤ 550 + 400 * k; omega⟩) rfl rfl rfl rfl hl.1 rfl (Nat.le_of_ble_eq_true rfl) dX3_doThen_101 ⟨Nat.zero_le _, Nat.zero_le _⟩ (fun H locs I => ?_)
    refine lv_lconst (v := 0) hx hb dX3_doThen_104 (by decide) ?_
    have e : thF C k (gdF C k) (N, T) = ((nt N (100 * kdT T + nI k), wpT T 2 (C.2.2.2 k)), 0) := by unfold thF; dsimp only; rw [if_neg (by rw [c_38]; decide), if_neg (by rw [c_38]; decide), if_neg (by rw [c_38]; decide), if_pos c_38]
    exact k_lret S hr hlk I (by rw [e]) (by rw [e]) dX3_doThen_105
  · refine lv_tableIn (tgt := 106) hx hb dX3_doThen_38 (by rw [c_38]; decide) (by rw [c_38]; decide) (by rw [c_38]; rfl) (by decide) ?_
    refine lv_aload_n hx hb dX3_doThen_106 rfl (lv_at hl 1 rfl) ?_
    refine lv_iconst (v := 3) hx hb dX3_doThen_107 (by decide) ?_
    refine lv_iconst (v := 0) hx hb dX3_doThen_108 (by decide) ?_
    refine k_Vl (q0 := 0) (As := [.int 3, .int 0]) (rest := []) (w1 := rgW ad cy C (nt N (100 * kdT T + nI k)) (tnT T 3 0) rn X) (G := 0) S I (c_throwNew l D cy A ad C (nt N (100 * kdT T + nI k)) T rn X 3 0) (cwV 2 hts gX3_doThen_X3_throwNew rfl rfl rfl (by decide +kernel) ⟨by show 1 + 1 ≤ 13 + 10 * k; omega, by show 8 + (3 + 11) + 30 ≤ 550 + 400 * k; omega⟩) rfl rfl rfl rfl hl.1 rfl (Nat.le_of_ble_eq_true rfl) dX3_doThen_109 ⟨Nat.zero_le _, Nat.zero_le _⟩ (fun H locs I => ?_)
    have e : thF C k (gdF C k) (N, T) = ((nt N (100 * kdT T + nI k), tnT T 3 0), 0) := by unfold thF; dsimp only; rw [if_neg (by rw [c_38]; decide), if_neg (by rw [c_38]; decide), if_neg (by rw [c_38]; decide), if_neg (by rw [c_38]; decide), if_pos c_38]
    exact k_lret S hr hlk I (by rw [e]) (by rw [e]) dX3_doThen_112
theorem in_X3_doLevel_X3 : ∀ w ∈ u_ws RX3 TX3 4, w ∈ wsX3_doLevel := by decide +kernel
set_option maxHeartbeats 4000000 in
set_option maxRecDepth 100000 in
/-- doLevel, the way down given -/
theorem c_doLevel (l : Launch) (D : va_G) (cy : Nat → ClassId) (A : Nat → Prop) (ad : Nat → Nat) (C : rC) (rn : Int32) (X : va_W) (k : Nat) (hk : k < 6) (hG : rGD l D cy A ad C rn X k) (N : rN) (T : rT) (b v : Int32) (hN : N.2 + (3 + 2 * cgF k) < 99000) (hT : T.2.2 ≤ 7) : Met l yX3_doLevel wsX3_doLevel ({ frames := 16 + 10 * k, cells := 0, slots := 0, locals := 700 + 400 * k }) (va_Pc [.ref (ad 0), .int (nI k), .int b, .int v] (KP D cy A (rgW ad cy C N T rn X))) (va_Ql (fun (r : Int64) (_ : Unit) => r = (dlF C k (gdF C k) b v (N, T)).2) (fun _ => KB D cy A (rgW ad cy C ((dlF C k (gdF C k) b v (N, T)).1.1) ((dlF C k (gdF C k) b v (N, T)).1.2) rn X)) A) 0 0 A := by
  refine k_open (own := RX3) (maxL := 6) (ret := (some .long)) (by decide) rfl rfl (Nat.le_of_ble_eq_true rfl) (fun p e s m args below meth c S hr hlk I ls hl => ?_)
  obtain ⟨hx, hb, hml, hown, hts⟩ := id S
  have hl : lv_has ls 6 [(0, .ref (ad 0)), (1, .int (nI k)), (2, .int b), (3, .int v)] := hl
  refine lv_aload_n hx hb dX3_doLevel_0 rfl (lv_at hl 0 rfl) ?_
  refine k_get (T := TX3) (N := 4) (ci := 3) (k := 1) (q0 := 0) (v := .ref (ad 8)) S I in_X3_doLevel_X3 rfl rfl (by decide) (by decide +kernel) rfl dX3_doLevel_1 ?_
  refine lv_iload_n hx hb dX3_doLevel_4 rfl (lv_at hl 1 rfl) ?_
  refine k_Vv (q0 := 8) (As := [.int (nI k)]) (rest := []) (w1 := rgW ad cy C (nt N (nI k)) T rn X) S I (c_add l D cy A ad C N T rn X (by omega) (nI k)) (cwV 1 hts gX3_doLevel_X1_add rfl rfl rfl (by decide +kernel) ⟨by show 0 + 1 ≤ 16 + 10 * k; omega, by show 8 + (2 + 11) + 0 ≤ 700 + 400 * k; omega⟩) rfl rfl rfl rfl hl.1 rfl (Nat.le_of_ble_eq_true rfl) dX3_doLevel_5 ⟨Nat.zero_le _, Nat.zero_le _⟩ (fun H locs I => ?_)
  refine lv_aload_n hx hb dX3_doLevel_8 rfl (lv_at hl 0 rfl) ?_
  refine lv_iload_n hx hb dX3_doLevel_9 rfl (lv_at hl 1 rfl) ?_
  refine lv_iload_n hx hb dX3_doLevel_10 rfl (lv_at hl 2 rfl) ?_
  refine lv_iload_n hx hb dX3_doLevel_11 rfl (lv_at hl 3 rfl) ?_
  refine k_Vl (q0 := 0) (As := [.int (nI k), .int b, .int v]) (rest := []) (w1 := rgW ad cy C ((gdF C k b v (nt N (nI k), T)).1.1) ((gdF C k b v (nt N (nI k), T)).1.2) rn X) (G := (gdF C k b v (nt N (nI k), T)).2) S I (hG (nt N (nI k)) T b v (by rw [nt_2]; omega) hT) (cwV 3 hts gX3_doLevel_X3_goDown rfl rfl rfl (by decide +kernel) ⟨by show 10 + 10 * k + 1 ≤ 16 + 10 * k; omega, by show 8 + (4 + 11) + (400 + 400 * k) ≤ 700 + 400 * k; omega⟩) rfl rfl rfl rfl hl.1 rfl (Nat.le_of_ble_eq_true rfl) dX3_doLevel_12 ⟨Nat.zero_le _, Nat.zero_le _⟩ (fun H locs I => ?_)
  obtain ⟨g1, g2⟩ := gdF_h C k b v (nt N (nI k), T) hT
  rw [nt_2] at g2
  refine lv_lstore (lv' := [(4, .long ((gdF C k b v (nt N (nI k), T)).2)), (0, .ref (ad 0)), (1, .int (nI k)), (2, .int b), (3, .int v)]) hx hb dX3_doLevel_15 hl (by decide) rfl (fun ls hl => ?_)
  refine lv_aload_n hx hb dX3_doLevel_17 rfl (lv_at hl 1 rfl) ?_
  refine k_get (T := TX3) (N := 4) (ci := 3) (k := 0) (q0 := 0) (v := .ref (ad 1)) S I in_X3_doLevel_X3 rfl rfl (by decide) (by decide +kernel) rfl dX3_doLevel_18 ?_
  refine lv_iload_n hx hb dX3_doLevel_21 rfl (lv_at hl 2 rfl) ?_
  refine k_aald (q0 := 1) (t0 := 0) (j := k) (b := ad (2 + k)) S I rfl rfl hk (by decide) rfl (lvF_at hk) dX3_doLevel_22 ?_
  refine lv_aload_n hx hb dX3_doLevel_23 rfl (lv_at hl 1 rfl) ?_
  refine k_get (T := TX3) (N := 4) (ci := 3) (k := 2) (q0 := 0) (v := .ref (ad 10)) S I in_X3_doLevel_X3 rfl rfl (by decide) (by decide +kernel) rfl dX3_doLevel_24 ?_
  refine k_Vi (q0 := 10) (As := []) (rest := [.ref (ad (2 + k))]) (w1 := rgW ad cy C ((gdF C k b v (nt N (nI k), T)).1.1) ((gdF C k b v (nt N (nI k), T)).1.2) rn X) (G := kdT (gdF C k b v (nt N (nI k), T)).1.2) S I (c_kind l D cy A ad C (gdF C k b v (nt N (nI k), T)).1.1 (gdF C k b v (nt N (nI k), T)).1.2 rn X g1) (cwV 0 hts gX3_doLevel_X2_kind rfl rfl rfl (by decide +kernel) ⟨by show 0 + 1 ≤ 16 + 10 * k; omega, by show 8 + (1 + 11) + 0 ≤ 700 + 400 * k; omega⟩) rfl rfl rfl rfl hl.1 rfl (Nat.le_of_ble_eq_true rfl) dX3_doLevel_27 ⟨Nat.zero_le _, Nat.zero_le _⟩ (fun H locs I => ?_)
  refine k_Vi (q0 := (2 + k)) (As := [.int (kdT (gdF C k b v (nt N (nI k), T)).1.2)]) (rest := []) (w1 := rgW ad cy C ((gdF C k b v (nt N (nI k), T)).1.1) ((gdF C k b v (nt N (nI k), T)).1.2) rn X) (G := tkB (C.1 k) (kdT (gdF C k b v (nt N (nI k), T)).1.2)) S I (c_takesKind l D cy A ad C (gdF C k b v (nt N (nI k), T)).1.1 (gdF C k b v (nt N (nI k), T)).1.2 rn X k hk (kdT (gdF C k b v (nt N (nI k), T)).1.2)) (cwV 1 hts gX3_doLevel_X0_takesKind rfl rfl rfl (by decide +kernel) ⟨by show 0 + 1 ≤ 16 + 10 * k; omega, by show 8 + (2 + 11) + 0 ≤ 700 + 400 * k; omega⟩) (rgW_lv hk) rfl rfl rfl hl.1 rfl (Nat.le_of_ble_eq_true rfl) dX3_doLevel_30 ⟨Nat.zero_le _, Nat.zero_le _⟩ (fun H locs I => ?_)
  refine lv_if_eq (tgt := 43) hx hb dX3_doLevel_33 (by decide) (fun c_33 => ?_) (fun c_33 => ?_)
  · refine lv_aload_n hx hb dX3_doLevel_43 rfl (lv_at hl 1 rfl) ?_
    refine lv_iload_n hx hb dX3_doLevel_44 rfl (lv_at hl 2 rfl) ?_
    refine lv_lload hx hb dX3_doLevel_45 (lv_at hl 0 rfl) ?_
    refine k_Vl (q0 := 0) (As := [.int (nI k), .long ((gdF C k b v (nt N (nI k), T)).2)]) (rest := []) (w1 := rgW ad cy C ((laF C k (gdF C k b v (nt N (nI k), T)).2 ((gdF C k b v (nt N (nI k), T)).1.1, (gdF C k b v (nt N (nI k), T)).1.2)).1.1) ((laF C k (gdF C k b v (nt N (nI k), T)).2 ((gdF C k b v (nt N (nI k), T)).1.1, (gdF C k b v (nt N (nI k), T)).1.2)).1.2) rn X) (G := (laF C k (gdF C k b v (nt N (nI k), T)).2 ((gdF C k b v (nt N (nI k), T)).1.1, (gdF C k b v (nt N (nI k), T)).1.2)).2) S I (c_doLast l D cy A ad C (gdF C k b v (nt N (nI k), T)).1.1 (gdF C k b v (nt N (nI k), T)).1.2 rn X (by omega) (by omega) k hk (gdF C k b v (nt N (nI k), T)).2) (cwV 2 hts gX3_doLevel_X3_doLast rfl rfl rfl (by decide +kernel) ⟨by show 3 + 1 ≤ 16 + 10 * k; omega, by show 8 + (5 + 11) + 100 ≤ 700 + 400 * k; omega⟩) rfl rfl rfl rfl hl.1 rfl (Nat.le_of_ble_eq_true rfl) dX3_doLevel_47 ⟨Nat.zero_le _, Nat.zero_le _⟩ (fun H locs I => ?_)
    have e : dlF C k (gdF C k) b v (N, T) = (laF C k (gdF C k b v (nt N (nI k), T)).2 ((gdF C k b v (nt N (nI k), T)).1.1, (gdF C k b v (nt N (nI k), T)).1.2)) := by unfold dlF; dsimp only; rw [if_pos c_33]
    exact k_lret S hr hlk I (by rw [e]) (by rw [e]) dX3_doLevel_50
  · refine lv_aload_n hx hb dX3_doLevel_36 rfl (lv_at hl 1 rfl) ?_
    refine lv_iload_n hx hb dX3_doLevel_37 rfl (lv_at hl 2 rfl) ?_
    refine k_Vl (q0 := 0) (As := [.int (nI k)]) (rest := []) (w1 := rgW ad cy C ((thF C k (gdF C k) ((gdF C k b v (nt N (nI k), T)).1.1, (gdF C k b v (nt N (nI k), T)).1.2)).1.1) ((thF C k (gdF C k) ((gdF C k b v (nt N (nI k), T)).1.1, (gdF C k b v (nt N (nI k), T)).1.2)).1.2) rn X) (G := (thF C k (gdF C k) ((gdF C k b v (nt N (nI k), T)).1.1, (gdF C k b v (nt N (nI k), T)).1.2)).2) S I (c_doThen l D cy A ad C (gdF C k b v (nt N (nI k), T)).1.1 (gdF C k b v (nt N (nI k), T)).1.2 rn X k hk hG (by omega) g1) (cwV 1 hts gX3_doLevel_X3_doThen rfl rfl rfl (by decide +kernel) ⟨by show 13 + 10 * k + 1 ≤ 16 + 10 * k; omega, by show 8 + (3 + 11) + (550 + 400 * k) ≤ 700 + 400 * k; omega⟩) rfl rfl rfl rfl hl.1 rfl (Nat.le_of_ble_eq_true rfl) dX3_doLevel_38 ⟨Nat.zero_le _, Nat.zero_le _⟩ (fun H locs I => ?_)
    obtain ⟨g3, g4⟩ := thF_h (C := C) (k := k) (gdF_h C k) ((gdF C k b v (nt N (nI k), T)).1.1, (gdF C k b v (nt N (nI k), T)).1.2) g1
    dsimp only at g4
    refine lv_lstore (lv' := [(4, .long ((thF C k (gdF C k) ((gdF C k b v (nt N (nI k), T)).1.1, (gdF C k b v (nt N (nI k), T)).1.2)).2)), (0, .ref (ad 0)), (1, .int (nI k)), (2, .int b), (3, .int v)]) hx hb dX3_doLevel_41 hl (by decide) rfl (fun ls hl => ?_)
    refine lv_aload_n hx hb dX3_doLevel_43 rfl (lv_at hl 1 rfl) ?_
    refine lv_iload_n hx hb dX3_doLevel_44 rfl (lv_at hl 2 rfl) ?_
    refine lv_lload hx hb dX3_doLevel_45 (lv_at hl 0 rfl) ?_
    refine k_Vl (q0 := 0) (As := [.int (nI k), .long ((thF C k (gdF C k) ((gdF C k b v (nt N (nI k), T)).1.1, (gdF C k b v (nt N (nI k), T)).1.2)).2)]) (rest := []) (w1 := rgW ad cy C ((laF C k (thF C k (gdF C k) ((gdF C k b v (nt N (nI k), T)).1.1, (gdF C k b v (nt N (nI k), T)).1.2)).2 ((thF C k (gdF C k) ((gdF C k b v (nt N (nI k), T)).1.1, (gdF C k b v (nt N (nI k), T)).1.2)).1.1, (thF C k (gdF C k) ((gdF C k b v (nt N (nI k), T)).1.1, (gdF C k b v (nt N (nI k), T)).1.2)).1.2)).1.1) ((laF C k (thF C k (gdF C k) ((gdF C k b v (nt N (nI k), T)).1.1, (gdF C k b v (nt N (nI k), T)).1.2)).2 ((thF C k (gdF C k) ((gdF C k b v (nt N (nI k), T)).1.1, (gdF C k b v (nt N (nI k), T)).1.2)).1.1, (thF C k (gdF C k) ((gdF C k b v (nt N (nI k), T)).1.1, (gdF C k b v (nt N (nI k), T)).1.2)).1.2)).1.2) rn X) (G := (laF C k (thF C k (gdF C k) ((gdF C k b v (nt N (nI k), T)).1.1, (gdF C k b v (nt N (nI k), T)).1.2)).2 ((thF C k (gdF C k) ((gdF C k b v (nt N (nI k), T)).1.1, (gdF C k b v (nt N (nI k), T)).1.2)).1.1, (thF C k (gdF C k) ((gdF C k b v (nt N (nI k), T)).1.1, (gdF C k b v (nt N (nI k), T)).1.2)).1.2)).2) S I (c_doLast l D cy A ad C (thF C k (gdF C k) ((gdF C k b v (nt N (nI k), T)).1.1, (gdF C k b v (nt N (nI k), T)).1.2)).1.1 (thF C k (gdF C k) ((gdF C k b v (nt N (nI k), T)).1.1, (gdF C k b v (nt N (nI k), T)).1.2)).1.2 rn X (by omega) (by omega) k hk (thF C k (gdF C k) ((gdF C k b v (nt N (nI k), T)).1.1, (gdF C k b v (nt N (nI k), T)).1.2)).2) (cwV 2 hts gX3_doLevel_X3_doLast rfl rfl rfl (by decide +kernel) ⟨by show 3 + 1 ≤ 16 + 10 * k; omega, by show 8 + (5 + 11) + 100 ≤ 700 + 400 * k; omega⟩) rfl rfl rfl rfl hl.1 rfl (Nat.le_of_ble_eq_true rfl) dX3_doLevel_47 ⟨Nat.zero_le _, Nat.zero_le _⟩ (fun H locs I => ?_)
    have e : dlF C k (gdF C k) b v (N, T) = (laF C k (thF C k (gdF C k) ((gdF C k b v (nt N (nI k), T)).1.1, (gdF C k b v (nt N (nI k), T)).1.2)).2 ((thF C k (gdF C k) ((gdF C k b v (nt N (nI k), T)).1.1, (gdF C k b v (nt N (nI k), T)).1.2)).1.1, (thF C k (gdF C k) ((gdF C k b v (nt N (nI k), T)).1.1, (gdF C k b v (nt N (nI k), T)).1.2)).1.2)) := by unfold dlF; dsimp only; rw [if_neg c_33]
    exact k_lret S hr hlk I (by rw [e]) (by rw [e]) dX3_doLevel_50
theorem in_X3_goDown_X0 : ∀ w ∈ u_ws RX0 TX0 4, w ∈ wsX3_goDown := by decide +kernel
theorem in_X3_goDown_X3 : ∀ w ∈ u_ws RX3 TX3 4, w ∈ wsX3_goDown := by decide +kernel
set_option maxHeartbeats 4000000 in
set_option maxRecDepth 100000 in
/-- goDown from level 0 -/
theorem c_goDown0 (l : Launch) (D : va_G) (cy : Nat → ClassId) (A : Nat → Prop) (ad : Nat → Nat) (C : rC) (rn : Int32) (X : va_W) (N : rN) (T : rT) (b v : Int32) (hN : N.2 < 99000) : Met l yX3_goDown wsX3_goDown ({ frames := 10 + 10 * 0, cells := 0, slots := 0, locals := 400 + 400 * 0 }) (va_Pc [.ref (ad 0), .int (nI 0), .int b, .int v] (KP D cy A (rgW ad cy C N T rn X))) (va_Ql (fun (r : Int64) (_ : Unit) => r = (gdF C 0 b v (N, T)).2) (fun _ => KB D cy A (rgW ad cy C ((gdF C 0 b v (N, T)).1.1) ((gdF C 0 b v (N, T)).1.2) rn X)) A) 0 0 A := by
  refine k_open (own := RX3) (maxL := 4) (ret := (some .long)) (by decide) rfl rfl (Nat.le_of_ble_eq_true rfl) (fun p e s m args below meth c S hr hlk I ls hl => ?_)
  obtain ⟨hx, hb, hml, hown, hts⟩ := id S
  have hl : lv_has ls 4 [(0, .ref (ad 0)), (1, .int (nI 0)), (2, .int b), (3, .int v)] := hl
  refine lv_iload_n hx hb dX3_goDown_0 rfl (lv_at hl 1 rfl) ?_
  refine lv_if_gt (tgt := 11) hx hb dX3_goDown_1 (by decide) (fun c_1 => ?_) (fun c_1 => ?_)
  · exact absurd c_1 (by decide)
  · refine lv_aload_n hx hb dX3_goDown_4 rfl (lv_at hl 0 rfl) ?_
    refine lv_iload_n hx hb dX3_goDown_5 rfl (lv_at hl 2 rfl) ?_
    refine lv_iload_n hx hb dX3_goDown_6 rfl (lv_at hl 3 rfl) ?_
    refine k_Vl (q0 := 0) (As := [.int b, .int v]) (rest := []) (w1 := rgW ad cy C ((rbF b v (N, T)).1.1) ((rbF b v (N, T)).1.2) rn X) (G := (rbF b v (N, T)).2) S I (c_reachBottom l D cy A ad C N T rn X (by omega) b v) (cwV 2 hts gX3_goDown_X3_reachBottom rfl rfl rfl (by decide +kernel) ⟨Nat.le_of_ble_eq_true rfl, Nat.le_of_ble_eq_true rfl⟩) rfl rfl rfl rfl hl.1 rfl (Nat.le_of_ble_eq_true rfl) dX3_goDown_7 ⟨Nat.zero_le _, Nat.zero_le _⟩ (fun H locs I => ?_)
    exact k_lret S hr hlk I rfl rfl dX3_goDown_10
set_option maxHeartbeats 4000000 in
set_option maxRecDepth 100000 in
/-- goDown from a level above -/
theorem c_goDownS (l : Launch) (D : va_G) (cy : Nat → ClassId) (A : Nat → Prop) (ad : Nat → Nat) (C : rC) (rn : Int32) (X : va_W) (k : Nat) (hk : k + 1 < 6) (hD : rDL l D cy A ad C rn X k) (N : rN) (T : rT) (b v : Int32) (hN : N.2 + cgF (k + 1) < 99000) (hT : T.2.2 ≤ 7) : Met l yX3_goDown wsX3_goDown ({ frames := 10 + 10 * (k + 1), cells := 0, slots := 0, locals := 400 + 400 * (k + 1) }) (va_Pc [.ref (ad 0), .int (nI (k + 1)), .int b, .int v] (KP D cy A (rgW ad cy C N T rn X))) (va_Ql (fun (r : Int64) (_ : Unit) => r = (gdF C (k + 1) b v (N, T)).2) (fun _ => KB D cy A (rgW ad cy C ((gdF C (k + 1) b v (N, T)).1.1) ((gdF C (k + 1) b v (N, T)).1.2) rn X)) A) 0 0 A := by
  refine k_open (own := RX3) (maxL := 4) (ret := (some .long)) (by decide) rfl rfl (Nat.le_of_ble_eq_true rfl) (fun p e s m args below meth c S hr hlk I ls hl => ?_)
  obtain ⟨hx, hb, hml, hown, hts⟩ := id S
  have hl : lv_has ls 4 [(0, .ref (ad 0)), (1, .int (nI (k + 1))), (2, .int b), (3, .int v)] := hl
  refine lv_iload_n hx hb dX3_goDown_0 rfl (lv_at hl 1 rfl) ?_
  refine lv_if_gt (tgt := 11) hx hb dX3_goDown_1 (by decide) (fun c_1 => ?_) (fun c_1 => ?_)
  · refine lv_aload_n hx hb dX3_goDown_11 rfl (lv_at hl 0 rfl) ?_
    refine lv_iload_n hx hb dX3_goDown_12 rfl (lv_at hl 1 rfl) ?_
    refine lv_iconst (v := 1) hx hb dX3_goDown_13 (by decide) ?_
    refine lv_isub hx hb dX3_goDown_14 ?_
    refine W.eq (g2 := F0 m 15 ls (.int (nI k) :: [.ref (ad 0)])) (by rw [nI_pred]) ?_
    refine lv_iload_n hx hb dX3_goDown_15 rfl (lv_at hl 2 rfl) ?_
    refine lv_iload_n hx hb dX3_goDown_16 rfl (lv_at hl 3 rfl) ?_
    refine k_Vl (q0 := 0) (As := [.int (nI k), .int b, .int v]) (rest := []) (w1 := rgW ad cy C ((dlF C k (gdF C k) b v (N, T)).1.1) ((dlF C k (gdF C k) b v (N, T)).1.2) rn X) (G := (dlF C k (gdF C k) b v (N, T)).2) S I (hD N T b v hN hT) (cwV 3 hts gX3_goDown_X3_doLevel rfl rfl rfl (by decide +kernel) ⟨by show 16 + 10 * k + 1 ≤ 10 + 10 * (k + 1); omega, by show 8 + (6 + 11) + (700 + 400 * k) ≤ 400 + 400 * (k + 1); omega⟩) rfl rfl rfl rfl hl.1 rfl (Nat.le_of_ble_eq_true rfl) dX3_goDown_17 ⟨Nat.zero_le _, Nat.zero_le _⟩ (fun H locs I => ?_)
    refine lv_aload_n hx hb dX3_goDown_20 rfl (lv_at hl 0 rfl) ?_
    refine k_get (T := TX3) (N := 4) (ci := 3) (k := 0) (q0 := 0) (v := .ref (ad 1)) S I in_X3_goDown_X3 rfl rfl (by decide) (by decide +kernel) rfl dX3_goDown_21 ?_
    refine lv_iload_n hx hb dX3_goDown_24 rfl (lv_at hl 1 rfl) ?_
    refine k_aald (q0 := 1) (t0 := 0) (j := (k + 1)) (b := ad (2 + (k + 1))) S I rfl rfl hk (by decide) rfl (lvF_at hk) dX3_goDown_25 ?_
    refine k_getN (T := TX0) (N := 4) (ci := 0) (k := 3) (q0 := (2 + (k + 1))) (v := .int (C.2.2.2 (k + 1))) S I in_X3_goDown_X0 (rgW_lv hk) rfl (by decide) I.2.1.1.2.2.2.2.2 rfl dX3_goDown_26 ?_
    refine lv_i2l (v := (C.2.2.2 (k + 1)).toInt64) hx hb dX3_goDown_29 rfl ?_
    refine lv_ladd hx hb dX3_goDown_30 ?_
    exact k_lret S hr hlk I rfl rfl dX3_goDown_31
  · exact absurd (by have h := nI_lt (a := 0) (b := k + 1) (by omega) (by omega); rwa [nI_0] at h) c_1
/-- goDown and doLevel, at every level -/
theorem c_down (l : Launch) (D : va_G) (cy : Nat → ClassId) (A : Nat → Prop) (ad : Nat → Nat) (C : rC) (rn : Int32) (X : va_W) : ∀ k : Nat, k < 6 → rGD l D cy A ad C rn X k ∧ rDL l D cy A ad C rn X k := by
  intro k
  induction k with
  | zero =>
    intro hk
    have hG : rGD l D cy A ad C rn X 0 := fun N T b v hN hT => c_goDown0 l D cy A ad C rn X N T b v (by unfold cgF at hN; omega)
    exact ⟨hG, fun N T b v hN hT => c_doLevel l D cy A ad C rn X 0 hk hG N T b v hN hT⟩
  | succ k ih =>
    intro hk
    have hG : rGD l D cy A ad C rn X (k + 1) := fun N T b v hN hT => c_goDownS l D cy A ad C rn X k hk (ih (by omega)).2 N T b v hN hT
    exact ⟨hG, fun N T b v hN hT => c_doLevel l D cy A ad C rn X (k + 1) hk hG N T b v hN hT⟩
