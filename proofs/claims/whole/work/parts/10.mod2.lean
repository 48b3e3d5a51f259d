/-! THE REFERENCE: rise, laid by wip/whole/mod2.py -/
theorem btM_b (b v : Int32) (S : mS) : (btM b v S).1.1.2 ≤ S.1.2 + 3 ∧ (btM b v S).1.2.2.2.2.1 ≤ S.2.2.2.2.1 + 1 := by
  unfold btM
  repeat' split
  all_goals exact ⟨by first | exact Nat.le_add_right _ _ | exact Nat.le_refl _, by first | exact Nat.le_refl _ | exact Nat.le_add_right _ _⟩
theorem hdM_b (C : rC) (k j : Nat) (S : mS) : (hdM C k j S).1.1.2 ≤ S.1.2 + 1 ∧ (hdM C k j S).1.2.2.2.2.1 ≤ S.2.2.2.2.1 + 1 := by
  unfold hdM
  dsimp only
  repeat' split
  all_goals exact ⟨by first | exact Nat.le_add_right _ _ | exact Nat.le_refl _, by first | exact Nat.le_refl _ | exact Nat.le_add_right _ _⟩
/-- what one turn of the loop wants of what goes up and of the tables -/
def mOk (t : Int32) (S : mS) : Prop := S.1.2 < 99000 ∧ S.2.2.2.2.1 + 3 < 4096 ∧ (t < 0 ∨ ∃ j : Nat, j < 4096 ∧ t = nI j)
/-- the loop up to level K leads from one place to another -/
def mRch (C : rC) (K k0 : Nat) (t0 : Int32) (S0 : mS) (k1 : Nat) (t1 : Int32) (S1 : mS) : Prop := ∀ P : Nat → Int32 → mS → Prop, (∀ k t S, k ≤ K → mOk t S → P (stM C k t S).1 (stM C k t S).2.1 (stM C k t S).2.2 → P k t S) → P k1 t1 S1 → P k0 t0 S0
theorem mRch.rf {C : rC} {K k : Nat} {t : Int32} {S : mS} : mRch C K k t S k t S := fun _ _ h => h
theorem mRch.tr {C : rC} {K k0 k1 k2 : Nat} {t0 t1 t2 : Int32} {S0 S1 S2 : mS} (h1 : mRch C K k0 t0 S0 k1 t1 S1) (h2 : mRch C K k1 t1 S1 k2 t2 S2) : mRch C K k0 t0 S0 k2 t2 S2 := fun P hs h => h1 P hs (h2 P hs h)
theorem mRch.up {C : rC} {K K' k0 k1 : Nat} {t0 t1 : Int32} {S0 S1 : mS} (h : mRch C K k0 t0 S0 k1 t1 S1) (hK : K ≤ K') : mRch C K' k0 t0 S0 k1 t1 S1 := fun P hs h1 => h P (fun k t S a b => hs k t S (Nat.le_trans a hK) b) h1
theorem mRch.one {C : rC} {K k : Nat} {t : Int32} {S : mS} (hk : k ≤ K) (h : mOk t S) : mRch C K k t S (stM C k t S).1 (stM C k t S).2.1 (stM C k t S).2.2 := fun _ hs h1 => hs k t S hk h h1
theorem in_X4_rise_X4 : ∀ w ∈ u_ws RX4 TX4 15, w ∈ wsX4_rise := by decide +kernel
set_option maxHeartbeats 4000000 in
set_option maxRecDepth 100000 in
/-- a turn at level 0, an answer -/
theorem lp_rise0n {p : Program} {l : Launch} {e : Env} {s : State} {m : MethodId} {args : Array Value} {below : List Frame} {meth : Method} {c : Code} {D : va_G} {cy : Nat → ClassId} {A : Nat → Prop} {bd : Nat → Nat} {C : rC} {rn out code : Int32} {X : va_W} {K : Nat} {t0 : Int32} {Q : State → Prop} (S : CallFix p m c cX4_rise 5 s args wsX4_rise RX4) (N : rN) (M : mM) (hK : K < 6) (t : Int32) (hkK : 0 ≤ K) (ht : t < 0) (hNn : N.2 < 99000) (hM : M.2.2.2.1 + 3 < 4096)
    (hN : ∀ (H : Heap) (locs : List Loc), KI D cy A (mdW bd cy C ((stM C 0 t (N, M)).2.2) rn out code X) s H locs → ∀ ls : Array Slot, lv_has ls 5 [(4, .int (nI ((stM C 0 t (N, M)).1))), (3, .int ((stM C 0 t (N, M)).2.1)), (0, .ref (bd 0)), (1, .int (nI K)), (2, .int t0)] → W p l e ({ frames := 4, cells := 0, slots := 0, locals := 140 } : Room) s m args below meth c H locs 0 0 Q (F0 m 5 ls [])) :
    ∀ (H : Heap) (locs : List Loc), KI D cy A (mdW bd cy C (N, M) rn out code X) s H locs → ∀ ls : Array Slot, lv_has ls 5 [(4, .int (nI 0)), (3, .int t), (0, .ref (bd 0)), (1, .int (nI K)), (2, .int t0)] → W p l e ({ frames := 4, cells := 0, slots := 0, locals := 140 } : Room) s m args below meth c H locs 0 0 Q (F0 m 5 ls []) := by
  obtain ⟨hx, hb, hml, hown, hts⟩ := id S
  have hk : 0 < 6 := by omega
  have u : upM C 0 t (N, M) = (N, M) := by unfold upM; rw [if_neg (by decide)]
  intro H locs I ls hl
  refine lv_iload hx hb dX4_rise_5 (lv_at hl 0 rfl) ?_
  refine lv_iload_n hx hb dX4_rise_7 rfl (lv_at hl 3 rfl) ?_
  refine lv_icmp_gt (tgt := 134) hx hb dX4_rise_8 (by decide) (fun c_8 => ?_) (fun c_8 => ?_)
  · exact absurd c_8 (nI_nlt (a := K) (b := 0) hkK (by omega))
  · refine lv_iload hx hb dX4_rise_11 (lv_at hl 0 rfl) ?_
    refine lv_if_le (tgt := 37) hx hb dX4_rise_13 (by decide) (fun c_13 => ?_) (fun c_13 => ?_)
    · refine lv_iload_n hx hb dX4_rise_37 rfl (lv_at hl 1 rfl) ?_
      refine lv_if_lt (tgt := 120) hx hb dX4_rise_38 (by decide) (fun c_38 => ?_) (fun c_38 => ?_)
      · refine lv_aload_n hx hb dX4_rise_120 rfl (lv_at hl 2 rfl) ?_
        refine lv_iload hx hb dX4_rise_121 (lv_at hl 0 rfl) ?_
        refine lv_iload_n hx hb dX4_rise_123 rfl (lv_at hl 1 rfl) ?_
        refine k_Vi (q0 := 0) (As := [.int (nI 0), .int t]) (rest := []) (w1 := mdW bd cy C ((lsM C 0 t ((N, M).1, (N, M).2)).1) rn out code X) (G := (lsM C 0 t ((N, M).1, (N, M).2)).2) S I (c_last l D cy A bd C (N, M).1 (N, M).2 rn out code X (show N.2 < 99990 by omega) (show M.2.2.2.1 < 4096 by omega) 0 hk t) (cwV 2 hts gX4_rise_X4_last rfl rfl rfl (by decide +kernel) ⟨Nat.le_of_ble_eq_true rfl, Nat.le_of_ble_eq_true rfl⟩) rfl rfl rfl rfl hl.1 rfl (Nat.le_of_ble_eq_true rfl) dX4_rise_124 ⟨Nat.zero_le _, Nat.zero_le _⟩ (fun H locs I => ?_)
        refine lv_istore_n (lv' := [(3, .int ((lsM C 0 t ((N, M).1, (N, M).2)).2)), (4, .int (nI 0)), (0, .ref (bd 0)), (1, .int (nI K)), (2, .int t0)]) hx hb dX4_rise_127 rfl hl (by decide) rfl (fun ls hl => ?_)
        refine lv_iinc (v := (nI (0 + 1))) (lv' := [(4, .int (nI (0 + 1))), (3, .int ((lsM C 0 t ((N, M).1, (N, M).2)).2)), (0, .ref (bd 0)), (1, .int (nI K)), (2, .int t0)]) hx hb dX4_rise_128 hl (k := 1) rfl (nI_succ _).symm (by decide) rfl (fun ls hl => ?_)
        refine lv_goto (tgt := 5) hx hb dX4_rise_131 (by decide) ?_
        have e : stM C 0 t (N, M) = (0 + 1, (lsM C 0 t ((N, M).1, (N, M).2)).2, (lsM C 0 t ((N, M).1, (N, M).2)).1) := by unfold stM; dsimp only; rw [u, if_pos ht]
        rw [e] at hN
        exact hN _ _ I ls (lv_sub hl [0, 1, 2, 3, 4] rfl)
      · exact absurd ht c_38
    · exact absurd (by decide) c_13
set_option maxHeartbeats 4000000 in
set_option maxRecDepth 100000 in
/-- a turn at level 0, a thing thrown -/
theorem lp_rise0j {p : Program} {l : Launch} {e : Env} {s : State} {m : MethodId} {args : Array Value} {below : List Frame} {meth : Method} {c : Code} {D : va_G} {cy : Nat → ClassId} {A : Nat → Prop} {bd : Nat → Nat} {C : rC} {rn out code : Int32} {X : va_W} {K : Nat} {t0 : Int32} {Q : State → Prop} (S : CallFix p m c cX4_rise 5 s args wsX4_rise RX4) (N : rN) (M : mM) (hK : K < 6) (j : Nat) (hj : j < 4096) (hkK : 0 ≤ K) (hNn : N.2 < 99000) (hM : M.2.2.2.1 + 3 < 4096)
    (hN : ∀ (H : Heap) (locs : List Loc), KI D cy A (mdW bd cy C ((stM C 0 (nI j) (N, M)).2.2) rn out code X) s H locs → ∀ ls : Array Slot, lv_has ls 5 [(4, .int (nI ((stM C 0 (nI j) (N, M)).1))), (3, .int ((stM C 0 (nI j) (N, M)).2.1)), (0, .ref (bd 0)), (1, .int (nI K)), (2, .int t0)] → W p l e ({ frames := 4, cells := 0, slots := 0, locals := 140 } : Room) s m args below meth c H locs 0 0 Q (F0 m 5 ls [])) :
    ∀ (H : Heap) (locs : List Loc), KI D cy A (mdW bd cy C (N, M) rn out code X) s H locs → ∀ ls : Array Slot, lv_has ls 5 [(4, .int (nI 0)), (3, .int (nI j)), (0, .ref (bd 0)), (1, .int (nI K)), (2, .int t0)] → W p l e ({ frames := 4, cells := 0, slots := 0, locals := 140 } : Room) s m args below meth c H locs 0 0 Q (F0 m 5 ls []) := by
  obtain ⟨hx, hb, hml, hown, hts⟩ := id S
  have hk : 0 < 6 := by omega
  have u : upM C 0 (nI j) (N, M) = (N, M) := by unfold upM; rw [if_neg (by decide)]
  intro H locs I ls hl
  refine lv_iload hx hb dX4_rise_5 (lv_at hl 0 rfl) ?_
  refine lv_iload_n hx hb dX4_rise_7 rfl (lv_at hl 3 rfl) ?_
  refine lv_icmp_gt (tgt := 134) hx hb dX4_rise_8 (by decide) (fun c_8 => ?_) (fun c_8 => ?_)
  · exact absurd c_8 (nI_nlt (a := K) (b := 0) hkK (by omega))
  · refine lv_iload hx hb dX4_rise_11 (lv_at hl 0 rfl) ?_
    refine lv_if_le (tgt := 37) hx hb dX4_rise_13 (by decide) (fun c_13 => ?_) (fun c_13 => ?_)
    · refine lv_iload_n hx hb dX4_rise_37 rfl (lv_at hl 1 rfl) ?_
      refine lv_if_lt (tgt := 120) hx hb dX4_rise_38 (by decide) (fun c_38 => ?_) (fun c_38 => ?_)
      · exact absurd c_38 (nI_pos (by omega))
      · refine lv_aload_n hx hb dX4_rise_41 rfl (lv_at hl 2 rfl) ?_
        refine k_get (T := TX4) (N := 15) (ci := 4) (k := 14) (q0 := 0) (v := .ref (bd 9)) S I in_X4_rise_X4 rfl rfl (by decide) (by decide +kernel) rfl dX4_rise_42 ?_
        refine lv_iload hx hb dX4_rise_45 (lv_at hl 0 rfl) ?_
        refine k_iald (q0 := 9) (t0 := 12) (j := 0) (x := ((N, M).2.2.2.2.2.2) 0) S I rfl rfl hk (by decide) rfl rfl dX4_rise_47 ?_
        refine lv_if_ne (tgt := 120) hx hb dX4_rise_48 (by decide) (fun c_48 => ?_) (fun c_48 => ?_)
        · refine lv_aload_n hx hb dX4_rise_120 rfl (lv_at hl 2 rfl) ?_
          refine lv_iload hx hb dX4_rise_121 (lv_at hl 0 rfl) ?_
          refine lv_iload_n hx hb dX4_rise_123 rfl (lv_at hl 1 rfl) ?_
          refine k_Vi (q0 := 0) (As := [.int (nI 0), .int (nI j)]) (rest := []) (w1 := mdW bd cy C ((lsM C 0 (nI j) ((N, M).1, (N, M).2)).1) rn out code X) (G := (lsM C 0 (nI j) ((N, M).1, (N, M).2)).2) S I (c_last l D cy A bd C (N, M).1 (N, M).2 rn out code X (show N.2 < 99990 by omega) (show M.2.2.2.1 < 4096 by omega) 0 hk (nI j)) (cwV 2 hts gX4_rise_X4_last rfl rfl rfl (by decide +kernel) ⟨Nat.le_of_ble_eq_true rfl, Nat.le_of_ble_eq_true rfl⟩) rfl rfl rfl rfl hl.1 rfl (Nat.le_of_ble_eq_true rfl) dX4_rise_124 ⟨Nat.zero_le _, Nat.zero_le _⟩ (fun H locs I => ?_)
          refine lv_istore_n (lv' := [(3, .int ((lsM C 0 (nI j) ((N, M).1, (N, M).2)).2)), (4, .int (nI 0)), (0, .ref (bd 0)), (1, .int (nI K)), (2, .int t0)]) hx hb dX4_rise_127 rfl hl (by decide) rfl (fun ls hl => ?_)
          refine lv_iinc (v := (nI (0 + 1))) (lv' := [(4, .int (nI (0 + 1))), (3, .int ((lsM C 0 (nI j) ((N, M).1, (N, M).2)).2)), (0, .ref (bd 0)), (1, .int (nI K)), (2, .int t0)]) hx hb dX4_rise_128 hl (k := 1) rfl (nI_succ _).symm (by decide) rfl (fun ls hl => ?_)
          refine lv_goto (tgt := 5) hx hb dX4_rise_131 (by decide) ?_
          have e : stM C 0 (nI j) (N, M) = (0 + 1, (lsM C 0 (nI j) ((N, M).1, (N, M).2)).2, (lsM C 0 (nI j) ((N, M).1, (N, M).2)).1) := by unfold stM; dsimp only; rw [u, if_neg (nI_pos (by omega)), if_pos c_48]
          rw [e] at hN
          exact hN _ _ I ls (lv_sub hl [0, 1, 2, 3, 4] rfl)
        · refine lv_aload_n hx hb dX4_rise_51 rfl (lv_at hl 2 rfl) ?_
          refine lv_iload hx hb dX4_rise_52 (lv_at hl 0 rfl) ?_
          refine lv_iload_n hx hb dX4_rise_54 rfl (lv_at hl 1 rfl) ?_
          refine k_Vi (q0 := 0) (As := [.int (nI 0), .int (nI j)]) (rest := []) (w1 := mdW bd cy C ((hdM C 0 j (N, M)).1) rn out code X) (G := (hdM C 0 j (N, M)).2) S I (c_handle l D cy A bd C N M rn out code X (by omega) (by omega) 0 hk j hj) (cwV 2 hts gX4_rise_X4_handle rfl rfl rfl (by decide +kernel) ⟨Nat.le_of_ble_eq_true rfl, Nat.le_of_ble_eq_true rfl⟩) rfl rfl rfl rfl hl.1 rfl (Nat.le_of_ble_eq_true rfl) dX4_rise_55 ⟨Nat.zero_le _, Nat.zero_le _⟩ (fun H locs I => ?_)
          obtain ⟨b1, b2⟩ := hdM_b C 0 j (N, M)
          dsimp only at b1 b2
          refine lv_istore_n (lv' := [(3, .int ((hdM C 0 j (N, M)).2)), (4, .int (nI 0)), (0, .ref (bd 0)), (1, .int (nI K)), (2, .int t0)]) hx hb dX4_rise_58 rfl hl (by decide) rfl (fun ls hl => ?_)
          refine lv_iload_n hx hb dX4_rise_59 rfl (lv_at hl 0 rfl) ?_
          refine lv_bipush (v := (-2)) hx hb dX4_rise_60 (by decide) ?_
          refine lv_icmp_ne (tgt := 120) hx hb dX4_rise_62 (by decide) (fun c_62 => ?_) (fun c_62 => ?_)
          · refine lv_aload_n hx hb dX4_rise_120 rfl (lv_at hl 2 rfl) ?_
            refine lv_iload hx hb dX4_rise_121 (lv_at hl 1 rfl) ?_
            refine lv_iload_n hx hb dX4_rise_123 rfl (lv_at hl 0 rfl) ?_
            refine k_Vi (q0 := 0) (As := [.int (nI 0), .int ((hdM C 0 j (N, M)).2)]) (rest := []) (w1 := mdW bd cy C ((lsM C 0 ((hdM C 0 j (N, M)).2) (((hdM C 0 j (N, M)).1).1, ((hdM C 0 j (N, M)).1).2)).1) rn out code X) (G := (lsM C 0 ((hdM C 0 j (N, M)).2) (((hdM C 0 j (N, M)).1).1, ((hdM C 0 j (N, M)).1).2)).2) S I (c_last l D cy A bd C ((hdM C 0 j (N, M)).1).1 ((hdM C 0 j (N, M)).1).2 rn out code X (by omega) (by omega) 0 hk ((hdM C 0 j (N, M)).2)) (cwV 2 hts gX4_rise_X4_last rfl rfl rfl (by decide +kernel) ⟨Nat.le_of_ble_eq_true rfl, Nat.le_of_ble_eq_true rfl⟩) rfl rfl rfl rfl hl.1 rfl (Nat.le_of_ble_eq_true rfl) dX4_rise_124 ⟨Nat.zero_le _, Nat.zero_le _⟩ (fun H locs I => ?_)
            refine lv_istore_n (lv' := [(3, .int ((lsM C 0 ((hdM C 0 j (N, M)).2) (((hdM C 0 j (N, M)).1).1, ((hdM C 0 j (N, M)).1).2)).2)), (4, .int (nI 0)), (0, .ref (bd 0)), (1, .int (nI K)), (2, .int t0)]) hx hb dX4_rise_127 rfl hl (by decide) rfl (fun ls hl => ?_)
            refine lv_iinc (v := (nI (0 + 1))) (lv' := [(4, .int (nI (0 + 1))), (3, .int ((lsM C 0 ((hdM C 0 j (N, M)).2) (((hdM C 0 j (N, M)).1).1, ((hdM C 0 j (N, M)).1).2)).2)), (0, .ref (bd 0)), (1, .int (nI K)), (2, .int t0)]) hx hb dX4_rise_128 hl (k := 1) rfl (nI_succ _).symm (by decide) rfl (fun ls hl => ?_)
            refine lv_goto (tgt := 5) hx hb dX4_rise_131 (by decide) ?_
            have e : stM C 0 (nI j) (N, M) = (0 + 1, (lsM C 0 ((hdM C 0 j (N, M)).2) (((hdM C 0 j (N, M)).1).1, ((hdM C 0 j (N, M)).1).2)).2, (lsM C 0 ((hdM C 0 j (N, M)).2) (((hdM C 0 j (N, M)).1).1, ((hdM C 0 j (N, M)).1).2)).1) := by unfold stM; dsimp only; rw [u, if_neg (nI_pos (by omega)), if_neg (not_not_intro c_48), nI_clamp (by omega), if_pos c_62]
            rw [e] at hN
            exact hN _ _ I ls (lv_sub hl [0, 1, 2, 3, 4] rfl)
          · refine lv_aload_n hx hb dX4_rise_65 rfl (lv_at hl 2 rfl) ?_
            refine k_get (T := TX4) (N := 15) (ci := 4) (k := 14) (q0 := 0) (v := .ref (bd 9)) S I in_X4_rise_X4 rfl rfl (by decide) (by decide +kernel) rfl dX4_rise_66 ?_
            refine lv_iload hx hb dX4_rise_69 (lv_at hl 1 rfl) ?_
            refine lv_iconst (v := 1) hx hb dX4_rise_71 (by decide) ?_
            refine k_iast (q0 := 9) (t0 := 12) (j := 0) (w1 := mdW bd cy C ((hdM C 0 j (N, M)).1.1, phM (hdM C 0 j (N, M)).1.2 0 1) rn out code X) S I rfl rfl hk (by decide) rfl rfl dX4_rise_72 (fun H locs I => ?_)
            refine lv_iload hx hb dX4_rise_73 (lv_at hl 1 rfl) ?_
            refine lv_if_ne (tgt := 92) hx hb dX4_rise_75 (by decide) (fun c_75 => ?_) (fun c_75 => ?_)
            · exact absurd rfl c_75
            · refine lv_aload_n hx hb dX4_rise_78 rfl (lv_at hl 2 rfl) ?_
              refine lv_iconst (v := 0) hx hb dX4_rise_79 (by decide) ?_
              refine lv_aload_n hx hb dX4_rise_80 rfl (lv_at hl 2 rfl) ?_
              refine k_get (T := TX4) (N := 15) (ci := 4) (k := 3) (q0 := 0) (v := .ref (bd 4)) S I in_X4_rise_X4 rfl rfl (by decide) (by decide +kernel) rfl dX4_rise_81 ?_
              refine lv_iconst (v := 0) hx hb dX4_rise_84 (by decide) ?_
              refine k_iald (q0 := 4) (t0 := 7) (j := 0) (x := C.2.2.2 0) S I rfl rfl hk (by decide) (nI_0.symm) rfl dX4_rise_85 ?_
              refine k_Vi (q0 := 0) (As := [.int 0, .int (C.2.2.2 0)]) (rest := []) (w1 := mdW bd cy C ((btM 0 (C.2.2.2 0) ((hdM C 0 j (N, M)).1.1, phM (hdM C 0 j (N, M)).1.2 0 1)).1) rn out code X) (G := (btM 0 (C.2.2.2 0) ((hdM C 0 j (N, M)).1.1, phM (hdM C 0 j (N, M)).1.2 0 1)).2) S I (c_bottom l D cy A bd C (hdM C 0 j (N, M)).1.1 (phM (hdM C 0 j (N, M)).1.2 0 1) rn out code X (by omega) (show (hdM C 0 j (N, M)).1.2.2.2.2.1 < 4096 by omega) 0 (C.2.2.2 0)) (cwV 2 hts gX4_rise_X4_bottom rfl rfl rfl (by decide +kernel) ⟨Nat.le_of_ble_eq_true rfl, Nat.le_of_ble_eq_true rfl⟩) rfl rfl rfl rfl hl.1 rfl (Nat.le_of_ble_eq_true rfl) dX4_rise_86 ⟨Nat.zero_le _, Nat.zero_le _⟩ (fun H locs I => ?_)
              obtain ⟨b3, b4⟩ := btM_b 0 (C.2.2.2 0) ((hdM C 0 j (N, M)).1.1, phM (hdM C 0 j (N, M)).1.2 0 1)
              have b5 : (phM (hdM C 0 j (N, M)).1.2 0 1).2.2.2.1 = (hdM C 0 j (N, M)).1.2.2.2.2.1 := rfl
              dsimp only at b3 b4
              rw [b5] at b4
              refine lv_goto (tgt := 108) hx hb dX4_rise_89 (by decide) ?_
              refine lv_istore_n (lv' := [(3, .int ((btM 0 (C.2.2.2 0) ((hdM C 0 j (N, M)).1.1, phM (hdM C 0 j (N, M)).1.2 0 1)).2)), (4, .int (nI 0)), (0, .ref (bd 0)), (1, .int (nI K)), (2, .int t0)]) hx hb dX4_rise_108 rfl hl (by decide) rfl (fun ls hl => ?_)
              refine lv_iload hx hb dX4_rise_109 (lv_at hl 1 rfl) ?_
              refine lv_if_le (tgt := 120) hx hb dX4_rise_111 (by decide) (fun c_111 => ?_) (fun c_111 => ?_)
              · refine lv_aload_n hx hb dX4_rise_120 rfl (lv_at hl 2 rfl) ?_
                refine lv_iload hx hb dX4_rise_121 (lv_at hl 1 rfl) ?_
                refine lv_iload_n hx hb dX4_rise_123 rfl (lv_at hl 0 rfl) ?_
                refine k_Vi (q0 := 0) (As := [.int (nI 0), .int ((btM 0 (C.2.2.2 0) ((hdM C 0 j (N, M)).1.1, phM (hdM C 0 j (N, M)).1.2 0 1)).2)]) (rest := []) (w1 := mdW bd cy C ((lsM C 0 ((btM 0 (C.2.2.2 0) ((hdM C 0 j (N, M)).1.1, phM (hdM C 0 j (N, M)).1.2 0 1)).2) (((btM 0 (C.2.2.2 0) ((hdM C 0 j (N, M)).1.1, phM (hdM C 0 j (N, M)).1.2 0 1)).1).1, ((btM 0 (C.2.2.2 0) ((hdM C 0 j (N, M)).1.1, phM (hdM C 0 j (N, M)).1.2 0 1)).1).2)).1) rn out code X) (G := (lsM C 0 ((btM 0 (C.2.2.2 0) ((hdM C 0 j (N, M)).1.1, phM (hdM C 0 j (N, M)).1.2 0 1)).2) (((btM 0 (C.2.2.2 0) ((hdM C 0 j (N, M)).1.1, phM (hdM C 0 j (N, M)).1.2 0 1)).1).1, ((btM 0 (C.2.2.2 0) ((hdM C 0 j (N, M)).1.1, phM (hdM C 0 j (N, M)).1.2 0 1)).1).2)).2) S I (c_last l D cy A bd C ((btM 0 (C.2.2.2 0) ((hdM C 0 j (N, M)).1.1, phM (hdM C 0 j (N, M)).1.2 0 1)).1).1 ((btM 0 (C.2.2.2 0) ((hdM C 0 j (N, M)).1.1, phM (hdM C 0 j (N, M)).1.2 0 1)).1).2 rn out code X (by omega) (by omega) 0 hk ((btM 0 (C.2.2.2 0) ((hdM C 0 j (N, M)).1.1, phM (hdM C 0 j (N, M)).1.2 0 1)).2)) (cwV 2 hts gX4_rise_X4_last rfl rfl rfl (by decide +kernel) ⟨Nat.le_of_ble_eq_true rfl, Nat.le_of_ble_eq_true rfl⟩) rfl rfl rfl rfl hl.1 rfl (Nat.le_of_ble_eq_true rfl) dX4_rise_124 ⟨Nat.zero_le _, Nat.zero_le _⟩ (fun H locs I => ?_)
                refine lv_istore_n (lv' := [(3, .int ((lsM C 0 ((btM 0 (C.2.2.2 0) ((hdM C 0 j (N, M)).1.1, phM (hdM C 0 j (N, M)).1.2 0 1)).2) (((btM 0 (C.2.2.2 0) ((hdM C 0 j (N, M)).1.1, phM (hdM C 0 j (N, M)).1.2 0 1)).1).1, ((btM 0 (C.2.2.2 0) ((hdM C 0 j (N, M)).1.1, phM (hdM C 0 j (N, M)).1.2 0 1)).1).2)).2)), (4, .int (nI 0)), (0, .ref (bd 0)), (1, .int (nI K)), (2, .int t0)]) hx hb dX4_rise_127 rfl hl (by decide) rfl (fun ls hl => ?_)
                refine lv_iinc (v := (nI (0 + 1))) (lv' := [(4, .int (nI (0 + 1))), (3, .int ((lsM C 0 ((btM 0 (C.2.2.2 0) ((hdM C 0 j (N, M)).1.1, phM (hdM C 0 j (N, M)).1.2 0 1)).2) (((btM 0 (C.2.2.2 0) ((hdM C 0 j (N, M)).1.1, phM (hdM C 0 j (N, M)).1.2 0 1)).1).1, ((btM 0 (C.2.2.2 0) ((hdM C 0 j (N, M)).1.1, phM (hdM C 0 j (N, M)).1.2 0 1)).1).2)).2)), (0, .ref (bd 0)), (1, .int (nI K)), (2, .int t0)]) hx hb dX4_rise_128 hl (k := 1) rfl (nI_succ _).symm (by decide) rfl (fun ls hl => ?_)
                refine lv_goto (tgt := 5) hx hb dX4_rise_131 (by decide) ?_
                have e : stM C 0 (nI j) (N, M) = (0 + 1, (lsM C 0 ((btM 0 (C.2.2.2 0) ((hdM C 0 j (N, M)).1.1, phM (hdM C 0 j (N, M)).1.2 0 1)).2) (((btM 0 (C.2.2.2 0) ((hdM C 0 j (N, M)).1.1, phM (hdM C 0 j (N, M)).1.2 0 1)).1).1, ((btM 0 (C.2.2.2 0) ((hdM C 0 j (N, M)).1.1, phM (hdM C 0 j (N, M)).1.2 0 1)).1).2)).2, (lsM C 0 ((btM 0 (C.2.2.2 0) ((hdM C 0 j (N, M)).1.1, phM (hdM C 0 j (N, M)).1.2 0 1)).2) (((btM 0 (C.2.2.2 0) ((hdM C 0 j (N, M)).1.1, phM (hdM C 0 j (N, M)).1.2 0 1)).1).1, ((btM 0 (C.2.2.2 0) ((hdM C 0 j (N, M)).1.1, phM (hdM C 0 j (N, M)).1.2 0 1)).1).2)).1) := by unfold stM; dsimp only; rw [u, if_neg (nI_pos (by omega)), if_neg (not_not_intro c_48), nI_clamp (by omega), if_neg (not_not_intro c_62), if_pos rfl]
                rw [e] at hN
                exact hN _ _ I ls (lv_sub hl [0, 1, 2, 3, 4] rfl)
              · exact absurd (by decide) c_111
    · exact absurd (by decide) c_13
set_option maxHeartbeats 4000000 in
set_option maxRecDepth 100000 in
/-- a turn above, an answer -/
theorem lp_riseSn {p : Program} {l : Launch} {e : Env} {s : State} {m : MethodId} {args : Array Value} {below : List Frame} {meth : Method} {c : Code} {D : va_G} {cy : Nat → ClassId} {A : Nat → Prop} {bd : Nat → Nat} {C : rC} {rn out code : Int32} {X : va_W} {K : Nat} {t0 : Int32} {Q : State → Prop} (S : CallFix p m c cX4_rise 5 s args wsX4_rise RX4) (N : rN) (M : mM) (hK : K < 6) (k : Nat) (t : Int32) (hkK : k + 1 ≤ K) (ht : t < 0) (hNn : N.2 < 99000) (hM : M.2.2.2.1 + 3 < 4096)
    (hN : ∀ (H : Heap) (locs : List Loc), KI D cy A (mdW bd cy C ((stM C (k + 1) t (N, M)).2.2) rn out code X) s H locs → ∀ ls : Array Slot, lv_has ls 5 [(4, .int (nI ((stM C (k + 1) t (N, M)).1))), (3, .int ((stM C (k + 1) t (N, M)).2.1)), (0, .ref (bd 0)), (1, .int (nI K)), (2, .int t0)] → W p l e ({ frames := 4, cells := 0, slots := 0, locals := 140 } : Room) s m args below meth c H locs 0 0 Q (F0 m 5 ls [])) :
    ∀ (H : Heap) (locs : List Loc), KI D cy A (mdW bd cy C (N, M) rn out code X) s H locs → ∀ ls : Array Slot, lv_has ls 5 [(4, .int (nI (k + 1))), (3, .int t), (0, .ref (bd 0)), (1, .int (nI K)), (2, .int t0)] → W p l e ({ frames := 4, cells := 0, slots := 0, locals := 140 } : Room) s m args below meth c H locs 0 0 Q (F0 m 5 ls []) := by
  obtain ⟨hx, hb, hml, hown, hts⟩ := id S
  have hk : k + 1 < 6 := by omega
  have u : upM C (k + 1) t (N, M) = (N, anM M (M.2.2.2.2.1 + (C.2.2.2 (k + 1)).toInt64)) := by unfold upM; rw [if_pos (Nat.succ_pos k), if_pos ht]
  intro H locs I ls hl
  refine lv_iload hx hb dX4_rise_5 (lv_at hl 0 rfl) ?_
  refine lv_iload_n hx hb dX4_rise_7 rfl (lv_at hl 3 rfl) ?_
  refine lv_icmp_gt (tgt := 134) hx hb dX4_rise_8 (by decide) (fun c_8 => ?_) (fun c_8 => ?_)
  · exact absurd c_8 (nI_nlt (a := K) (b := (k + 1)) hkK (by omega))
  · refine lv_iload hx hb dX4_rise_11 (lv_at hl 0 rfl) ?_
    refine lv_if_le (tgt := 37) hx hb dX4_rise_13 (by decide) (fun c_13 => ?_) (fun c_13 => ?_)
    · exact absurd c_13 (nI_nle (Nat.succ_pos k) (by omega))
    · refine lv_iload_n hx hb dX4_rise_16 rfl (lv_at hl 1 rfl) ?_
      refine lv_if_ge (tgt := 37) hx hb dX4_rise_17 (by decide) (fun c_17 => ?_) (fun c_17 => ?_)
      · exact absurd ht (by rw [Int32.not_lt]; exact c_17)
      · refine lv_aload_n hx hb dX4_rise_20 rfl (lv_at hl 2 rfl) ?_
        refine lv_dup hx hb dX4_rise_21 rfl ?_
        refine k_get (T := TX4) (N := 15) (ci := 4) (k := 11) (q0 := 0) (v := .long (N, M).2.2.2.2.2.1) S I in_X4_rise_X4 rfl rfl (by decide) (by decide +kernel) rfl dX4_rise_22 ?_
        refine lv_aload_n hx hb dX4_rise_25 rfl (lv_at hl 2 rfl) ?_
        refine k_get (T := TX4) (N := 15) (ci := 4) (k := 3) (q0 := 0) (v := .ref (bd 4)) S I in_X4_rise_X4 rfl rfl (by decide) (by decide +kernel) rfl dX4_rise_26 ?_
        refine lv_iload hx hb dX4_rise_29 (lv_at hl 0 rfl) ?_
        refine k_iald (q0 := 4) (t0 := 7) (j := (k + 1)) (x := C.2.2.2 (k + 1)) S I rfl rfl hk (by decide) rfl rfl dX4_rise_31 ?_
        refine lv_i2l (v := (C.2.2.2 (k + 1)).toInt64) hx hb dX4_rise_32 rfl ?_
        refine lv_ladd hx hb dX4_rise_33 ?_
        refine k_put (T := TX4) (N := 15) (ci := 4) (k := 11) (q0 := 0) (v := .long (((N, M).2.2.2.2.2.1) + ((C.2.2.2 (k + 1)).toInt64))) (ty := .long) (fs := [.ref (bd 1), .ref (bd 2), .ref (bd 3), .ref (bd 4), .ref (bd 5), .int (nI (N, M).1.2), .int rn, .ref (bd 6), .ref (bd 7), .ref (bd 8), .int (nI (N, M).2.2.2.2.1), .long (N, M).2.2.2.2.2.1, .int out, .int code, .ref (bd 9)]) (w1 := mdW bd cy C (N, anM M (M.2.2.2.2.1 + (C.2.2.2 (k + 1)).toInt64)) rn out code X) S I in_X4_rise_X4 tyX4 tyX4_ok nmX4 rfl rfl (by decide) (by decide +kernel) rfl rfl rfl rfl (Nat.le_of_ble_eq_true rfl) rfl dX4_rise_34 (fun H locs I => ?_)
        refine lv_iload_n hx hb dX4_rise_37 rfl (lv_at hl 1 rfl) ?_
        refine lv_if_lt (tgt := 120) hx hb dX4_rise_38 (by decide) (fun c_38 => ?_) (fun c_38 => ?_)
        · refine lv_aload_n hx hb dX4_rise_120 rfl (lv_at hl 2 rfl) ?_
          refine lv_iload hx hb dX4_rise_121 (lv_at hl 0 rfl) ?_
          refine lv_iload_n hx hb dX4_rise_123 rfl (lv_at hl 1 rfl) ?_
          refine k_Vi (q0 := 0) (As := [.int (nI (k + 1)), .int t]) (rest := []) (w1 := mdW bd cy C ((lsM C (k + 1) t ((N, anM M (M.2.2.2.2.1 + (C.2.2.2 (k + 1)).toInt64)).1, (N, anM M (M.2.2.2.2.1 + (C.2.2.2 (k + 1)).toInt64)).2)).1) rn out code X) (G := (lsM C (k + 1) t ((N, anM M (M.2.2.2.2.1 + (C.2.2.2 (k + 1)).toInt64)).1, (N, anM M (M.2.2.2.2.1 + (C.2.2.2 (k + 1)).toInt64)).2)).2) S I (c_last l D cy A bd C (N, anM M (M.2.2.2.2.1 + (C.2.2.2 (k + 1)).toInt64)).1 (N, anM M (M.2.2.2.2.1 + (C.2.2.2 (k + 1)).toInt64)).2 rn out code X (show N.2 < 99990 by omega) (show M.2.2.2.1 < 4096 by omega) (k + 1) hk t) (cwV 2 hts gX4_rise_X4_last rfl rfl rfl (by decide +kernel) ⟨Nat.le_of_ble_eq_true rfl, Nat.le_of_ble_eq_true rfl⟩) rfl rfl rfl rfl hl.1 rfl (Nat.le_of_ble_eq_true rfl) dX4_rise_124 ⟨Nat.zero_le _, Nat.zero_le _⟩ (fun H locs I => ?_)
          refine lv_istore_n (lv' := [(3, .int ((lsM C (k + 1) t ((N, anM M (M.2.2.2.2.1 + (C.2.2.2 (k + 1)).toInt64)).1, (N, anM M (M.2.2.2.2.1 + (C.2.2.2 (k + 1)).toInt64)).2)).2)), (4, .int (nI (k + 1))), (0, .ref (bd 0)), (1, .int (nI K)), (2, .int t0)]) hx hb dX4_rise_127 rfl hl (by decide) rfl (fun ls hl => ?_)
          refine lv_iinc (v := (nI (k + 1 + 1))) (lv' := [(4, .int (nI (k + 1 + 1))), (3, .int ((lsM C (k + 1) t ((N, anM M (M.2.2.2.2.1 + (C.2.2.2 (k + 1)).toInt64)).1, (N, anM M (M.2.2.2.2.1 + (C.2.2.2 (k + 1)).toInt64)).2)).2)), (0, .ref (bd 0)), (1, .int (nI K)), (2, .int t0)]) hx hb dX4_rise_128 hl (k := 1) rfl (nI_succ _).symm (by decide) rfl (fun ls hl => ?_)
          refine lv_goto (tgt := 5) hx hb dX4_rise_131 (by decide) ?_
          have e : stM C (k + 1) t (N, M) = ((k + 1) + 1, (lsM C (k + 1) t ((N, anM M (M.2.2.2.2.1 + (C.2.2.2 (k + 1)).toInt64)).1, (N, anM M (M.2.2.2.2.1 + (C.2.2.2 (k + 1)).toInt64)).2)).2, (lsM C (k + 1) t ((N, anM M (M.2.2.2.2.1 + (C.2.2.2 (k + 1)).toInt64)).1, (N, anM M (M.2.2.2.2.1 + (C.2.2.2 (k + 1)).toInt64)).2)).1) := by unfold stM; dsimp only; rw [u, if_pos ht]
          rw [e] at hN
          exact hN _ _ I ls (lv_sub hl [0, 1, 2, 3, 4] rfl)
        · exact absurd ht c_38
set_option maxHeartbeats 4000000 in
set_option maxRecDepth 100000 in
/-- a turn above, a thing thrown -/
theorem lp_riseSj {p : Program} {l : Launch} {e : Env} {s : State} {m : MethodId} {args : Array Value} {below : List Frame} {meth : Method} {c : Code} {D : va_G} {cy : Nat → ClassId} {A : Nat → Prop} {bd : Nat → Nat} {C : rC} {rn out code : Int32} {X : va_W} {K : Nat} {t0 : Int32} {Q : State → Prop} (S : CallFix p m c cX4_rise 5 s args wsX4_rise RX4) (N : rN) (M : mM) (hK : K < 6) (k j : Nat) (hj : j < 4096) (hkK : k + 1 ≤ K) (hNn : N.2 < 99000) (hM : M.2.2.2.1 + 3 < 4096)
    (hN : ∀ (H : Heap) (locs : List Loc), KI D cy A (mdW bd cy C ((stM C (k + 1) (nI j) (N, M)).2.2) rn out code X) s H locs → ∀ ls : Array Slot, lv_has ls 5 [(4, .int (nI ((stM C (k + 1) (nI j) (N, M)).1))), (3, .int ((stM C (k + 1) (nI j) (N, M)).2.1)), (0, .ref (bd 0)), (1, .int (nI K)), (2, .int t0)] → W p l e ({ frames := 4, cells := 0, slots := 0, locals := 140 } : Room) s m args below meth c H locs 0 0 Q (F0 m 5 ls [])) :
    ∀ (H : Heap) (locs : List Loc), KI D cy A (mdW bd cy C (N, M) rn out code X) s H locs → ∀ ls : Array Slot, lv_has ls 5 [(4, .int (nI (k + 1))), (3, .int (nI j)), (0, .ref (bd 0)), (1, .int (nI K)), (2, .int t0)] → W p l e ({ frames := 4, cells := 0, slots := 0, locals := 140 } : Room) s m args below meth c H locs 0 0 Q (F0 m 5 ls []) := by
  obtain ⟨hx, hb, hml, hown, hts⟩ := id S
  have hk : k + 1 < 6 := by omega
  have u : upM C (k + 1) (nI j) (N, M) = (N, M) := by unfold upM; rw [if_pos (Nat.succ_pos k), if_neg (nI_pos (by omega))]
  intro H locs I ls hl
  refine lv_iload hx hb dX4_rise_5 (lv_at hl 0 rfl) ?_
  refine lv_iload_n hx hb dX4_rise_7 rfl (lv_at hl 3 rfl) ?_
  refine lv_icmp_gt (tgt := 134) hx hb dX4_rise_8 (by decide) (fun c_8 => ?_) (fun c_8 => ?_)
  · exact absurd c_8 (nI_nlt (a := K) (b := (k + 1)) hkK (by omega))
  · refine lv_iload hx hb dX4_rise_11 (lv_at hl 0 rfl) ?_
    refine lv_if_le (tgt := 37) hx hb dX4_rise_13 (by decide) (fun c_13 => ?_) (fun c_13 => ?_)
    · exact absurd c_13 (nI_nle (Nat.succ_pos k) (by omega))
    · refine lv_iload_n hx hb dX4_rise_16 rfl (lv_at hl 1 rfl) ?_
      refine lv_if_ge (tgt := 37) hx hb dX4_rise_17 (by decide) (fun c_17 => ?_) (fun c_17 => ?_)
      · refine lv_iload_n hx hb dX4_rise_37 rfl (lv_at hl 1 rfl) ?_
        refine lv_if_lt (tgt := 120) hx hb dX4_rise_38 (by decide) (fun c_38 => ?_) (fun c_38 => ?_)
        · exact absurd c_38 (nI_pos (by omega))
        · refine lv_aload_n hx hb dX4_rise_41 rfl (lv_at hl 2 rfl) ?_
          refine k_get (T := TX4) (N := 15) (ci := 4) (k := 14) (q0 := 0) (v := .ref (bd 9)) S I in_X4_rise_X4 rfl rfl (by decide) (by decide +kernel) rfl dX4_rise_42 ?_
          refine lv_iload hx hb dX4_rise_45 (lv_at hl 0 rfl) ?_
          refine k_iald (q0 := 9) (t0 := 12) (j := (k + 1)) (x := ((N, M).2.2.2.2.2.2) (k + 1)) S I rfl rfl hk (by decide) rfl rfl dX4_rise_47 ?_
          refine lv_if_ne (tgt := 120) hx hb dX4_rise_48 (by decide) (fun c_48 => ?_) (fun c_48 => ?_)
          · refine lv_aload_n hx hb dX4_rise_120 rfl (lv_at hl 2 rfl) ?_
            refine lv_iload hx hb dX4_rise_121 (lv_at hl 0 rfl) ?_
            refine lv_iload_n hx hb dX4_rise_123 rfl (lv_at hl 1 rfl) ?_
            refine k_Vi (q0 := 0) (As := [.int (nI (k + 1)), .int (nI j)]) (rest := []) (w1 := mdW bd cy C ((lsM C (k + 1) (nI j) ((N, M).1, (N, M).2)).1) rn out code X) (G := (lsM C (k + 1) (nI j) ((N, M).1, (N, M).2)).2) S I (c_last l D cy A bd C (N, M).1 (N, M).2 rn out code X (show N.2 < 99990 by omega) (show M.2.2.2.1 < 4096 by omega) (k + 1) hk (nI j)) (cwV 2 hts gX4_rise_X4_last rfl rfl rfl (by decide +kernel) ⟨Nat.le_of_ble_eq_true rfl, Nat.le_of_ble_eq_true rfl⟩) rfl rfl rfl rfl hl.1 rfl (Nat.le_of_ble_eq_true rfl) dX4_rise_124 ⟨Nat.zero_le _, Nat.zero_le _⟩ (fun H locs I => ?_)
            refine lv_istore_n (lv' := [(3, .int ((lsM C (k + 1) (nI j) ((N, M).1, (N, M).2)).2)), (4, .int (nI (k + 1))), (0, .ref (bd 0)), (1, .int (nI K)), (2, .int t0)]) hx hb dX4_rise_127 rfl hl (by decide) rfl (fun ls hl => ?_)
            refine lv_iinc (v := (nI (k + 1 + 1))) (lv' := [(4, .int (nI (k + 1 + 1))), (3, .int ((lsM C (k + 1) (nI j) ((N, M).1, (N, M).2)).2)), (0, .ref (bd 0)), (1, .int (nI K)), (2, .int t0)]) hx hb dX4_rise_128 hl (k := 1) rfl (nI_succ _).symm (by decide) rfl (fun ls hl => ?_)
            refine lv_goto (tgt := 5) hx hb dX4_rise_131 (by decide) ?_
            have e : stM C (k + 1) (nI j) (N, M) = ((k + 1) + 1, (lsM C (k + 1) (nI j) ((N, M).1, (N, M).2)).2, (lsM C (k + 1) (nI j) ((N, M).1, (N, M).2)).1) := by unfold stM; dsimp only; rw [u, if_neg (nI_pos (by omega)), if_pos c_48]
            rw [e] at hN
            exact hN _ _ I ls (lv_sub hl [0, 1, 2, 3, 4] rfl)
          · refine lv_aload_n hx hb dX4_rise_51 rfl (lv_at hl 2 rfl) ?_
            refine lv_iload hx hb dX4_rise_52 (lv_at hl 0 rfl) ?_
            refine lv_iload_n hx hb dX4_rise_54 rfl (lv_at hl 1 rfl) ?_
            refine k_Vi (q0 := 0) (As := [.int (nI (k + 1)), .int (nI j)]) (rest := []) (w1 := mdW bd cy C ((hdM C (k + 1) j (N, M)).1) rn out code X) (G := (hdM C (k + 1) j (N, M)).2) S I (c_handle l D cy A bd C N M rn out code X (by omega) (by omega) (k + 1) hk j hj) (cwV 2 hts gX4_rise_X4_handle rfl rfl rfl (by decide +kernel) ⟨Nat.le_of_ble_eq_true rfl, Nat.le_of_ble_eq_true rfl⟩) rfl rfl rfl rfl hl.1 rfl (Nat.le_of_ble_eq_true rfl) dX4_rise_55 ⟨Nat.zero_le _, Nat.zero_le _⟩ (fun H locs I => ?_)
            obtain ⟨b1, b2⟩ := hdM_b C (k + 1) j (N, M)
            dsimp only at b1 b2
            refine lv_istore_n (lv' := [(3, .int ((hdM C (k + 1) j (N, M)).2)), (4, .int (nI (k + 1))), (0, .ref (bd 0)), (1, .int (nI K)), (2, .int t0)]) hx hb dX4_rise_58 rfl hl (by decide) rfl (fun ls hl => ?_)
            refine lv_iload_n hx hb dX4_rise_59 rfl (lv_at hl 0 rfl) ?_
            refine lv_bipush (v := (-2)) hx hb dX4_rise_60 (by decide) ?_
            refine lv_icmp_ne (tgt := 120) hx hb dX4_rise_62 (by decide) (fun c_62 => ?_) (fun c_62 => ?_)
            · refine lv_aload_n hx hb dX4_rise_120 rfl (lv_at hl 2 rfl) ?_
              refine lv_iload hx hb dX4_rise_121 (lv_at hl 1 rfl) ?_
              refine lv_iload_n hx hb dX4_rise_123 rfl (lv_at hl 0 rfl) ?_
              refine k_Vi (q0 := 0) (As := [.int (nI (k + 1)), .int ((hdM C (k + 1) j (N, M)).2)]) (rest := []) (w1 := mdW bd cy C ((lsM C (k + 1) ((hdM C (k + 1) j (N, M)).2) (((hdM C (k + 1) j (N, M)).1).1, ((hdM C (k + 1) j (N, M)).1).2)).1) rn out code X) (G := (lsM C (k + 1) ((hdM C (k + 1) j (N, M)).2) (((hdM C (k + 1) j (N, M)).1).1, ((hdM C (k + 1) j (N, M)).1).2)).2) S I (c_last l D cy A bd C ((hdM C (k + 1) j (N, M)).1).1 ((hdM C (k + 1) j (N, M)).1).2 rn out code X (by omega) (by omega) (k + 1) hk ((hdM C (k + 1) j (N, M)).2)) (cwV 2 hts gX4_rise_X4_last rfl rfl rfl (by decide +kernel) ⟨Nat.le_of_ble_eq_true rfl, Nat.le_of_ble_eq_true rfl⟩) rfl rfl rfl rfl hl.1 rfl (Nat.le_of_ble_eq_true rfl) dX4_rise_124 ⟨Nat.zero_le _, Nat.zero_le _⟩ (fun H locs I => ?_)
              refine lv_istore_n (lv' := [(3, .int ((lsM C (k + 1) ((hdM C (k + 1) j (N, M)).2) (((hdM C (k + 1) j (N, M)).1).1, ((hdM C (k + 1) j (N, M)).1).2)).2)), (4, .int (nI (k + 1))), (0, .ref (bd 0)), (1, .int (nI K)), (2, .int t0)]) hx hb dX4_rise_127 rfl hl (by decide) rfl (fun ls hl => ?_)
              refine lv_iinc (v := (nI (k + 1 + 1))) (lv' := [(4, .int (nI (k + 1 + 1))), (3, .int ((lsM C (k + 1) ((hdM C (k + 1) j (N, M)).2) (((hdM C (k + 1) j (N, M)).1).1, ((hdM C (k + 1) j (N, M)).1).2)).2)), (0, .ref (bd 0)), (1, .int (nI K)), (2, .int t0)]) hx hb dX4_rise_128 hl (k := 1) rfl (nI_succ _).symm (by decide) rfl (fun ls hl => ?_)
              refine lv_goto (tgt := 5) hx hb dX4_rise_131 (by decide) ?_
              have e : stM C (k + 1) (nI j) (N, M) = ((k + 1) + 1, (lsM C (k + 1) ((hdM C (k + 1) j (N, M)).2) (((hdM C (k + 1) j (N, M)).1).1, ((hdM C (k + 1) j (N, M)).1).2)).2, (lsM C (k + 1) ((hdM C (k + 1) j (N, M)).2) (((hdM C (k + 1) j (N, M)).1).1, ((hdM C (k + 1) j (N, M)).1).2)).1) := by unfold stM; dsimp only; rw [u, if_neg (nI_pos (by omega)), if_neg (not_not_intro c_48), nI_clamp (by omega), if_pos c_62]
              rw [e] at hN
              exact hN _ _ I ls (lv_sub hl [0, 1, 2, 3, 4] rfl)
            · refine lv_aload_n hx hb dX4_rise_65 rfl (lv_at hl 2 rfl) ?_
              refine k_get (T := TX4) (N := 15) (ci := 4) (k := 14) (q0 := 0) (v := .ref (bd 9)) S I in_X4_rise_X4 rfl rfl (by decide) (by decide +kernel) rfl dX4_rise_66 ?_
              refine lv_iload hx hb dX4_rise_69 (lv_at hl 1 rfl) ?_
              refine lv_iconst (v := 1) hx hb dX4_rise_71 (by decide) ?_
              refine k_iast (q0 := 9) (t0 := 12) (j := k + 1) (w1 := mdW bd cy C ((hdM C (k + 1) j (N, M)).1.1, phM (hdM C (k + 1) j (N, M)).1.2 (k + 1) 1) rn out code X) S I rfl rfl hk (by decide) rfl rfl dX4_rise_72 (fun H locs I => ?_)
              refine lv_iload hx hb dX4_rise_73 (lv_at hl 1 rfl) ?_
              refine lv_if_ne (tgt := 92) hx hb dX4_rise_75 (by decide) (fun c_75 => ?_) (fun c_75 => ?_)
              · refine lv_aload_n hx hb dX4_rise_92 rfl (lv_at hl 2 rfl) ?_
                refine lv_iload hx hb dX4_rise_93 (lv_at hl 1 rfl) ?_
                refine lv_iconst (v := 1) hx hb dX4_rise_95 (by decide) ?_
                refine lv_isub hx hb dX4_rise_96 ?_
                refine W.eq (congrArg (fun z => F0 m 97 ls (.int z :: [.ref (bd 0)])) (nI_pred k)) ?_
                refine lv_iconst (v := 0) hx hb dX4_rise_97 (by decide) ?_
                refine lv_aload_n hx hb dX4_rise_98 rfl (lv_at hl 2 rfl) ?_
                refine k_get (T := TX4) (N := 15) (ci := 4) (k := 3) (q0 := 0) (v := .ref (bd 4)) S I in_X4_rise_X4 rfl rfl (by decide) (by decide +kernel) rfl dX4_rise_99 ?_
                refine lv_iload hx hb dX4_rise_102 (lv_at hl 1 rfl) ?_
                refine k_iald (q0 := 4) (t0 := 7) (j := (k + 1)) (x := C.2.2.2 (k + 1)) S I rfl rfl hk (by decide) rfl rfl dX4_rise_104 ?_
                refine k_Vi (q0 := 0) (As := [.int (nI k), .int 0, .int (C.2.2.2 (k + 1))]) (rest := []) (w1 := mdW bd cy C ((skM k 0 (C.2.2.2 (k + 1)) ((hdM C (k + 1) j (N, M)).1.1, phM (hdM C (k + 1) j (N, M)).1.2 (k + 1) 1)).1) rn out code X) (G := (skM k 0 (C.2.2.2 (k + 1)) ((hdM C (k + 1) j (N, M)).1.1, phM (hdM C (k + 1) j (N, M)).1.2 (k + 1) 1)).2) S I (c_sink l D cy A bd C (hdM C (k + 1) j (N, M)).1.1 (phM (hdM C (k + 1) j (N, M)).1.2 (k + 1) 1) rn out code X k (by omega) (by omega) (show (hdM C (k + 1) j (N, M)).1.2.2.2.2.1 < 4096 by omega) 0 (C.2.2.2 (k + 1))) (cwV 3 hts gX4_rise_X4_sink rfl rfl rfl (by decide +kernel) ⟨Nat.le_of_ble_eq_true rfl, Nat.le_of_ble_eq_true rfl⟩) rfl rfl rfl rfl hl.1 rfl (Nat.le_of_ble_eq_true rfl) dX4_rise_105 ⟨Nat.zero_le _, Nat.zero_le _⟩ (fun H locs I => ?_)
                refine lv_istore_n (lv' := [(3, .int ((skM k 0 (C.2.2.2 (k + 1)) ((hdM C (k + 1) j (N, M)).1.1, phM (hdM C (k + 1) j (N, M)).1.2 (k + 1) 1)).2)), (4, .int (nI (k + 1))), (0, .ref (bd 0)), (1, .int (nI K)), (2, .int t0)]) hx hb dX4_rise_108 rfl hl (by decide) rfl (fun ls hl => ?_)
                refine lv_iload hx hb dX4_rise_109 (lv_at hl 1 rfl) ?_
                refine lv_if_le (tgt := 120) hx hb dX4_rise_111 (by decide) (fun c_111 => ?_) (fun c_111 => ?_)
                · exact absurd c_111 (nI_nle (Nat.succ_pos k) (by omega))
                · refine lv_iconst (v := 0) hx hb dX4_rise_114 (by decide) ?_
                  refine lv_istore (lv' := [(4, .int 0), (3, .int ((skM k 0 (C.2.2.2 (k + 1)) ((hdM C (k + 1) j (N, M)).1.1, phM (hdM C (k + 1) j (N, M)).1.2 (k + 1) 1)).2)), (0, .ref (bd 0)), (1, .int (nI K)), (2, .int t0)]) hx hb dX4_rise_115 hl (by decide) rfl (fun ls hl => ?_)
                  refine lv_goto (tgt := 5) hx hb dX4_rise_117 (by decide) ?_
                  have e : stM C (k + 1) (nI j) (N, M) = (0, (skM k 0 (C.2.2.2 (k + 1)) ((hdM C (k + 1) j (N, M)).1.1, phM (hdM C (k + 1) j (N, M)).1.2 (k + 1) 1)).2, (skM k 0 (C.2.2.2 (k + 1)) ((hdM C (k + 1) j (N, M)).1.1, phM (hdM C (k + 1) j (N, M)).1.2 (k + 1) 1)).1) := by unfold stM; dsimp only; rw [u, if_neg (nI_pos (by omega)), if_neg (not_not_intro c_48), nI_clamp (by omega), if_neg (not_not_intro c_62), if_neg (Nat.succ_ne_zero k), Nat.add_sub_cancel]
                  rw [e] at hN
                  exact hN _ _ I ls (lv_sub hl [0, 1, 2, 3, 4] rfl)
              · exact absurd c_75 (nI_ne0 (Nat.succ_pos k) (by omega))
      · exact absurd (nI_pos' (by omega)) c_17
/-- one turn of rise's loop -/
theorem lp_rise {p : Program} {l : Launch} {e : Env} {s : State} {m : MethodId} {args : Array Value} {below : List Frame} {meth : Method} {c : Code} {D : va_G} {cy : Nat → ClassId} {A : Nat → Prop} {bd : Nat → Nat} {C : rC} {rn out code : Int32} {X : va_W} {K : Nat} {t0 : Int32} {Q : State → Prop} (S0 : CallFix p m c cX4_rise 5 s args wsX4_rise RX4) (hK : K < 6) (k : Nat) (t : Int32) (S : mS) (hkK : k ≤ K) (ho : mOk t S)
    (hN : ∀ (H : Heap) (locs : List Loc), KI D cy A (mdW bd cy C ((stM C k t S).2.2) rn out code X) s H locs → ∀ ls : Array Slot, lv_has ls 5 [(4, .int (nI ((stM C k t S).1))), (3, .int ((stM C k t S).2.1)), (0, .ref (bd 0)), (1, .int (nI K)), (2, .int t0)] → W p l e ({ frames := 4, cells := 0, slots := 0, locals := 140 } : Room) s m args below meth c H locs 0 0 Q (F0 m 5 ls [])) :
    ∀ (H : Heap) (locs : List Loc), KI D cy A (mdW bd cy C S rn out code X) s H locs → ∀ ls : Array Slot, lv_has ls 5 [(4, .int (nI k)), (3, .int t), (0, .ref (bd 0)), (1, .int (nI K)), (2, .int t0)] → W p l e ({ frames := 4, cells := 0, slots := 0, locals := 140 } : Room) s m args below meth c H locs 0 0 Q (F0 m 5 ls []) := by
  obtain ⟨N, M⟩ := S
  obtain ⟨h1, h2, h3⟩ := ho
  rcases h3 with ht | ⟨j, hj, rfl⟩
  · cases k with
    | zero => exact lp_rise0n S0 N M hK t hkK ht h1 h2 hN
    | succ k => exact lp_riseSn S0 N M hK k t hkK ht h1 h2 hN
  · cases k with
    | zero => exact lp_rise0j S0 N M hK j hj hkK h1 h2 hN
    | succ k => exact lp_riseSj S0 N M hK k j hj hkK h1 h2 hN
set_option maxHeartbeats 4000000 in
set_option maxRecDepth 100000 in
/-- rise, its loop told by mRch -/
theorem c_rise (l : Launch) (D : va_G) (cy : Nat → ClassId) (A : Nat → Prop) (bd : Nat → Nat) (C : rC) (rn out code : Int32) (X : va_W) (K : Nat) (hK : K < 6) (t0 t1 : Int32) (S0 S1 : mS) (hR : mRch C K 0 t0 S0 (K + 1) t1 S1) : Met l yX4_rise wsX4_rise ({ frames := 4, cells := 0, slots := 0, locals := 140 }) (va_Pc [.ref (bd 0), .int (nI K), .int t0] (KP D cy A (mdW bd cy C S0 rn out code X))) (va_Qi (fun (r : Int32) (_ : Unit) => r = t1) (fun _ => KB D cy A (mdW bd cy C S1 rn out code X)) A) 0 0 A := by
  refine k_open (own := RX4) (maxL := 5) (ret := (some .int)) (by decide) rfl rfl (Nat.le_of_ble_eq_true rfl) (fun p e s m args below meth c S hr hlk I ls hl => ?_)
  obtain ⟨hx, hb, hml, hown, hts⟩ := id S
  have hl : lv_has ls 5 [(0, .ref (bd 0)), (1, .int (nI K)), (2, .int t0)] := hl
  refine lv_iload_n hx hb dX4_rise_0 rfl (lv_at hl 2 rfl) ?_
  refine lv_istore_n (lv' := [(3, .int t0), (0, .ref (bd 0)), (1, .int (nI K)), (2, .int t0)]) hx hb dX4_rise_1 rfl hl (by decide) rfl (fun ls hl => ?_)
  refine lv_iconst (v := nI 0) hx hb dX4_rise_2 (by decide) ?_
  refine lv_istore (lv' := [(4, .int (nI 0)), (3, .int t0), (0, .ref (bd 0)), (1, .int (nI K)), (2, .int t0)]) hx hb dX4_rise_3 hl (by decide) rfl (fun ls hl => ?_)
  refine hR (fun k t S => ∀ (H : Heap) (locs : List Loc), KI D cy A (mdW bd cy C S rn out code X) s H locs → ∀ ls : Array Slot, lv_has ls 5 [(4, .int (nI k)), (3, .int t), (0, .ref (bd 0)), (1, .int (nI K)), (2, .int t0)] → W p l e ({ frames := 4, cells := 0, slots := 0, locals := 140 } : Room) s m args below meth c H locs 0 0 (MQ below (va_Qi (fun (r : Int32) (_ : Unit) => r = t1) (fun _ => KB D cy A (mdW bd cy C S1 rn out code X)) A) args s 0 0 A) (F0 m 5 ls [])) (fun k t S hk ho hN => lp_rise ‹_› hK k t S hk ho hN) ?_ _ _ I ls hl
  intro H locs I ls hl
  refine lv_iload hx hb dX4_rise_5 (lv_at hl 0 rfl) ?_
  refine lv_iload_n hx hb dX4_rise_7 rfl (lv_at hl 3 rfl) ?_
  refine lv_icmp_gt (tgt := 134) hx hb dX4_rise_8 (by decide) (fun c_8 => ?_) (fun c_8 => ?_)
  · refine lv_iload_n hx hb dX4_rise_134 rfl (lv_at hl 1 rfl) ?_
    exact k_iret S hr hlk I rfl rfl dX4_rise_135
  · exact absurd (nI_lt (Nat.lt_succ_self K) (by omega)) c_8
