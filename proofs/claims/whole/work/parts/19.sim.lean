/-! ===== Int32 by its bits: bt x i ===== -/
def bt (x : Int32) (i : Nat) : Bool := x.toBitVec.getLsbD i
theorem b_ext {x y : Int32} (h : ∀ i, i < 32 → bt x i = bt y i) : x = y := Int32.toBitVec_inj.mp (BitVec.eq_of_getLsbD_eq (fun i hi => h i hi))
theorem b_or (x y : Int32) (i : Nat) : bt (x ||| y) i = (bt x i || bt y i) := by unfold bt; rw [Int32.toBitVec_or, BitVec.getLsbD_or]
theorem b_and (x y : Int32) (i : Nat) : bt (x &&& y) i = (bt x i && bt y i) := by unfold bt; rw [Int32.toBitVec_and, BitVec.getLsbD_and]
theorem b_xor (x y : Int32) (i : Nat) : bt (x ^^^ y) i = (bt x i ^^ bt y i) := by unfold bt; rw [Int32.toBitVec_xor, BitVec.getLsbD_xor]
theorem b_big {x : Int32} {i : Nat} (h : 32 ≤ i) : bt x i = false := BitVec.getLsbD_of_ge _ _ h
theorem b_255 (i : Nat) : bt 255 i = decide (i < 8) := by
  rcases Nat.lt_or_ge i 32 with h | h
  · exact (by decide +kernel : ∀ i, i < 32 → bt 255 i = decide (i < 8)) i h
  · rw [b_big h, decide_eq_false (by omega)]
theorem b_65535 (i : Nat) : bt 65535 i = decide (i < 16) := by
  rcases Nat.lt_or_ge i 32 with h | h
  · exact (by decide +kernel : ∀ i, i < 32 → bt 65535 i = decide (i < 16)) i h
  · rw [b_big h, decide_eq_false (by omega)]
theorem b_m1 : ∀ i, i < 32 → bt (-1) i = true := by decide +kernel
theorem b_0 (i : Nat) : bt 0 i = false := BitVec.getLsbD_zero
theorem s_l : ∀ n, n < 32 → ((nI n &&& 31).toBitVec.smod 32).toNat = n := by decide +kernel
theorem s_u : ∀ n, n < 32 → (((nI n).toUInt32 &&& Int32.toUInt32 31).toBitVec % 32).toNat = n := by decide +kernel
theorem b_shl (n : Nat) (hn : n < 32) (x : Int32) {i : Nat} (hi : i < 32) : bt (x <<< (nI n &&& 31)) i = (decide (n ≤ i) && bt x (i - n)) := by
  unfold bt
  rw [Int32.toBitVec_shiftLeft]
  show (x.toBitVec <<< ((nI n &&& 31).toBitVec.smod 32).toNat).getLsbD i = _
  rw [s_l n hn, BitVec.getLsbD_shiftLeft]
  rcases Nat.lt_or_ge i n with h | h
  · simp [h, Nat.not_le.mpr h]
  · simp [hi, h, Nat.not_lt.mpr h]
theorem b_ushr (n : Nat) (hn : n < 32) (x : Int32) (i : Nat) : bt ((x.toUInt32 >>> ((nI n).toUInt32 &&& Int32.toUInt32 31)).toInt32) i = bt x (n + i) := by
  show (x.toUInt32 >>> ((nI n).toUInt32 &&& Int32.toUInt32 31)).toBitVec.getLsbD i = x.toUInt32.toBitVec.getLsbD (n + i)
  rw [UInt32.toBitVec_shiftRight]
  show (x.toUInt32.toBitVec >>> (((nI n).toUInt32 &&& Int32.toUInt32 31).toBitVec % 32).toNat).getLsbD i = _
  rw [s_u n hn, BitVec.getLsbD_ushiftRight]
theorem b_sshr (n : Nat) (hn : n < 32) (x : Int32) {i : Nat} (hi : i < 32) : bt (x >>> (nI n &&& 31)) i = if n + i < 32 then bt x (n + i) else bt x 31 := by
  unfold bt
  rw [Int32.toBitVec_shiftRight]
  show (x.toBitVec.sshiftRight ((nI n &&& 31).toBitVec.smod 32).toNat).getLsbD i = _
  rw [s_l n hn, BitVec.getLsbD_sshiftRight, BitVec.msb_eq_getLsbD_last]
  simp [hi]
theorem b_shl8 (x : Int32) {i : Nat} (hi : i < 32) : bt (x <<< ((8 : Int32) &&& 31)) i = (decide (8 ≤ i) && bt x (i - 8)) := b_shl 8 (by omega) x hi
theorem b_shl16 (x : Int32) {i : Nat} (hi : i < 32) : bt (x <<< ((16 : Int32) &&& 31)) i = (decide (16 ≤ i) && bt x (i - 16)) := b_shl 16 (by omega) x hi
theorem b_shl24 (x : Int32) {i : Nat} (hi : i < 32) : bt (x <<< ((24 : Int32) &&& 31)) i = (decide (24 ≤ i) && bt x (i - 24)) := b_shl 24 (by omega) x hi
theorem b_sshr8 (x : Int32) {i : Nat} (hi : i < 32) : bt (x >>> ((8 : Int32) &&& 31)) i = if 8 + i < 32 then bt x (8 + i) else bt x 31 := b_sshr 8 (by omega) x hi
/-! THE RIG AND THE REFERENCE DO THE SAME: each level's way down and up, told by dlF and gdF, is the reference's loop -/
theorem b_1 : ∀ i, i < 32 → bt 1 i = decide (i = 0) := by decide +kernel
/-- the bit m, out of a mask or out of a shift -/
theorem tk_bit (x : Int32) (m : Nat) (hm : m < 31) : x &&& ((1 : Int32) <<< (nI m &&& 31)) = 0 ↔ (x >>> (nI m &&& 31)) &&& 1 = 0 := by
  constructor
  · intro h
    have h0 : bt (x &&& ((1 : Int32) <<< (nI m &&& 31))) m = false := by rw [h]; exact b_0 m
    rw [b_and, b_shl m (by omega) 1 (show m < 32 by omega), Nat.sub_self, b_1 0 (by decide)] at h0
    have h1 : bt x m = false := by simpa using h0
    refine b_ext (fun i hi => ?_)
    rw [b_and, b_sshr m (by omega) x hi, b_1 i hi, b_0]
    by_cases h2 : i = 0
    · subst h2
      rw [if_pos (by omega), Nat.add_zero, h1]; rfl
    · rw [decide_eq_false h2, Bool.and_false]
  · intro h
    have h0 : bt ((x >>> (nI m &&& 31)) &&& 1) 0 = false := by rw [h]; exact b_0 0
    rw [b_and, b_sshr m (by omega) x (by decide), b_1 0 (by decide), if_pos (by omega), Nat.add_zero] at h0
    have h1 : bt x m = false := by simpa using h0
    refine b_ext (fun i hi => ?_)
    rw [b_and, b_shl m (by omega) 1 hi, b_0]
    by_cases h2 : i = m
    · subst h2
      rw [h1, Bool.false_and]
    · by_cases h3 : m ≤ i
      · rw [b_1 (i - m) (by omega), decide_eq_false (show ¬ i - m = 0 by omega), Bool.and_false, Bool.and_false]
      · rw [decide_eq_false h3, Bool.false_and, Bool.and_false]
/-- one of the five kinds -/
def kOk (x : Int32) : Prop := x = 1 ∨ x = 2 ∨ x = 3 ∨ x = 4 ∨ x = 5
theorem tk_k {x k : Int32} (h : kOk k) : tkB x k = 0 ↔ (x >>> ((k - 1) &&& 31)) &&& 1 = 0 := by
  have go : ∀ (m : Nat), m < 31 → k - 1 = nI m → ¬ k = 0 → (tkB x k = 0 ↔ (x >>> ((k - 1) &&& 31)) &&& 1 = 0) := by
    intro m hm e h0
    unfold tkB
    rw [if_neg h0, e, ← tk_bit x m hm]
    constructor
    · intro h1
      by_cases h2 : x &&& ((1 : Int32) <<< (nI m &&& 31)) = 0
      · exact h2
      · rw [if_neg h2] at h1; exact absurd h1 (by decide)
    · intro h1
      rw [if_pos h1]
  rcases h with rfl | rfl | rfl | rfl | rfl
  · exact go 0 (by decide) (by decide) (by decide)
  · exact go 1 (by decide) (by decide) (by decide)
  · exact go 2 (by decide) (by decide) (by decide)
  · exact go 3 (by decide) (by decide) (by decide)
  · exact go 4 (by decide) (by decide) (by decide)
theorem tk_0 (x : Int32) : tkB x 0 = 0 := rfl
-- the chain
theorem chM_eq {M M' : mM} {f g : Nat → Int32} (h1 : M'.1 = M.1) (h2 : M'.2.1 = M.2.1) (h3 : M'.2.2.1 = M.2.2.1) (h4 : M'.2.2.2.1 = M.2.2.2.1) : ∀ (n : Nat) (t : Int32), chM M f g n t → chM M' f g n t := by
  intro n
  induction n with
  | zero => intro t h; exact h
  | succ n ih =>
    intro t h
    obtain ⟨j, e, a, b, c, d⟩ := h
    exact ⟨j, e, by rw [h4]; exact a, by rw [h1]; exact b, by rw [h2]; exact c, by rw [h3]; exact ih _ d⟩
theorem chM_mk {M : mM} {f g : Nat → Int32} {k x c k' x' : Int32} {h : Nat} : ∀ (n : Nat) (t : Int32), n ≤ h → chM M f g n t → chM (mkM M k x c) (upd f h k') (upd g h x') n t := by
  intro n
  induction n with
  | zero => intro t _ h; exact h
  | succ n ih =>
    intro t hn h1
    obtain ⟨j, e, a, b, c1, d⟩ := h1
    have hj : j ≠ M.2.2.2.1 := by omega
    have hn2 : n ≠ h := by omega
    refine ⟨j, e, Nat.lt_succ_of_lt a, ?_, ?_, ?_⟩
    · show upd M.1 M.2.2.2.1 k j = upd f h k' n
      rw [pk_un hj, pk_un hn2, b]
    · show upd M.2.1 M.2.2.2.1 x j = upd g h x' n
      rw [pk_un hj, pk_un hn2, c1]
    · show chM _ _ _ n (upd M.2.2.1 M.2.2.2.1 c j)
      rw [pk_un hj]
      exact ih _ (by omega) d
theorem chM_new {M : mM} {f g : Nat → Int32} {k x t : Int32} {h : Nat} (h1 : chM M f g h t) : chM (mkM M k x t) (upd f h k) (upd g h x) (h + 1) (nI M.2.2.2.1) :=
  ⟨M.2.2.2.1, rfl, Nat.lt_succ_self _, by show upd _ _ _ _ = _; rw [pk_us, pk_us], by show upd _ _ _ _ = _; rw [pk_us, pk_us], by show chM _ _ _ h (upd _ _ _ _); rw [pk_us]; exact chM_mk h t (Nat.le_refl _) h1⟩
/-- the rig's state S with the answer a, and the reference's S' with t on its way up, tell the same -/
def vR (h : Nat) (S : rS) (a : Int64) (S' : mS) (t : Int32) : Prop := S'.1 = S.1 ∧ chM S'.2 S.2.1 S.2.2.1 S.2.2.2 t ∧ (S.2.2.2 = 0 → S'.2.2.2.2.2.1 = a) ∧ (0 < S.2.2.2 → kOk (kdT S.2)) ∧ S.2.2.2 ≤ h
theorem vR.le {h h' : Nat} {S : rS} {a : Int64} {S' : mS} {t : Int32} (H : vR h S a S' t) (hh : h ≤ h') : vR h' S a S' t := ⟨H.1, H.2.1, H.2.2.1, H.2.2.2.1, Nat.le_trans H.2.2.2.2 hh⟩
/-- something thrown on top of what is there -/
theorem vR.mk {N : rN} {T : rT} {M : mM} {t k x : Int32} {a : Int64} (hc : chM M T.1 T.2.1 T.2.2 t) (h7 : T.2.2 < 7) (hk : kOk k) : vR (T.2.2 + 1) (N, wpT T k x) a (N, mkM M k x t) (nI M.2.2.2.1) := by
  have e : wpT T k x = (upd T.1 T.2.2 k, upd T.2.1 T.2.2 x, T.2.2 + 1) := if_pos h7
  rw [e]
  refine ⟨rfl, chM_new hc, fun h => absurd h (Nat.succ_ne_zero _), fun _ => ?_, Nat.le_refl _⟩
  have : kdT (upd T.1 T.2.2 k, upd T.2.1 T.2.2 x, T.2.2 + 1) = k := by
    unfold kdT
    rw [if_pos (Nat.succ_pos _)]
    exact pk_us
  rw [this]; exact hk
/-- something thrown anew -/
theorem vR.tn {N : rN} {T : rT} {M : mM} {k x : Int32} {a : Int64} {h : Nat} (hk : kOk k) (hh : 1 ≤ h) : vR h (N, tnT T k x) a (N, mkM M k x (-1)) (nI M.2.2.2.1) :=
  (vR.mk (N := N) (T := dpT T) (M := M) (t := -1) (x := x) (a := a) rfl (show (0 : Nat) < 7 by decide) hk).le hh
/-- an answer -/
theorem vR.an {N : rN} {T : rT} {M : mM} {a : Int64} {h : Nat} (hT : T.2.2 = 0) : vR h (N, T) a (N, anM M a) (-1) :=
  ⟨rfl, by show chM _ _ _ T.2.2 _; rw [hT]; rfl, fun _ => rfl, fun h0 => absurd h0 (by show ¬ 0 < T.2.2; omega), by show T.2.2 ≤ h; omega⟩
theorem vR.dp {N : rN} {T : rT} {M : mM} {a : Int64} {h : Nat} : vR h (N, dpT T) a (N, anM M a) (-1) := vR.an (T := dpT T) rfl
theorem k1 : kOk 1 := Or.inl rfl
theorem k2 : kOk 2 := Or.inr (Or.inl rfl)
theorem k3 : kOk 3 := Or.inr (Or.inr (Or.inl rfl))
theorem k4 : kOk 4 := Or.inr (Or.inr (Or.inr (Or.inl rfl)))
theorem k5 : kOk 5 := Or.inr (Or.inr (Or.inr (Or.inr rfl)))
theorem rb_btM (b v : Int32) (N : rN) (T : rT) (M : mM) (hT : T.2.2 = 0) : vR 1 (rbF b v (N, T)).1 (rbF b v (N, T)).2 (btM b v (N, M)).1 (btM b v (N, M)).2 := by
  unfold rbF btM
  dsimp only
  repeat' split
  · exact vR.tn k1 (Nat.le_refl _)
  · exact vR.tn k2 (Nat.le_refl _)
  · exact vR.tn k3 (Nat.le_refl _)
  · exact vR.tn k4 (Nat.le_refl _)
  · exact vR.tn k4 (Nat.le_refl _)
  · exact vR.tn k5 (Nat.le_refl _)
  · exact vR.tn k5 (Nat.le_refl _)
  · exact vR.an hT
  · exact vR.tn k1 (Nat.le_refl _)
  · exact vR.an hT
theorem la_lsM (C : rC) (k : Nat) {h : Nat} {S : rS} {a : Int64} {S' : mS} {t : Int32} (hh : 1 ≤ h) (H : vR h S a S' t) : vR h (laF C k a S).1 (laF C k a S).2 (lsM C k t S').1 (lsM C k t S').2 := by
  obtain ⟨N, T⟩ := S
  obtain ⟨N', M⟩ := S'
  obtain ⟨e, h2, h3, h4, h5⟩ := H
  have e : N' = N := e
  subst e
  unfold laF lsM
  dsimp only
  repeat' split
  · exact vR.dp
  · exact vR.tn k1 hh
  · exact vR.tn k3 hh
  · exact ⟨rfl, h2, h3, h4, h5⟩
theorem btM_ph (b v : Int32) (S : mS) : (btM b v S).1.2.2.2.2.2.2 = S.2.2.2.2.2.2 := by unfold btM; repeat' split
                                                                                        all_goals rfl
theorem lsM_b (C : rC) (k : Nat) (t : Int32) (S : mS) : (lsM C k t S).1.2.2.2.2.2.2 = S.2.2.2.2.2.2 ∧ (lsM C k t S).1.2.2.2.2.1 ≤ S.2.2.2.2.1 + 1 := by
  unfold lsM
  dsimp only
  repeat' split
  all_goals exact ⟨rfl, by first | exact Nat.le_refl _ | exact Nat.le_add_right _ _⟩
theorem hdM_ph (C : rC) (k j : Nat) (S : mS) : (hdM C k j S).1.2.2.2.2.2.2 = S.2.2.2.2.2.2 := by
  unfold hdM
  dsimp only
  repeat' split
  all_goals rfl
theorem upM_b (C : rC) (k : Nat) (t : Int32) (S : mS) : (upM C k t S).1 = S.1 ∧ (upM C k t S).2.2.2.2.2.2 = S.2.2.2.2.2.2 ∧ (upM C k t S).2.2.2.2.1 = S.2.2.2.2.1 := by
  unfold upM
  repeat' split
  all_goals exact ⟨rfl, rfl, rfl⟩
/-- what lies below a level -/
def sbM : Nat → Int32 → Int32 → mS → mS × Int32
  | 0, b, v, S => btM b v S
  | k + 1, b, v, S => skM k b v S
theorem sk_sb (k : Nat) (b v : Int32) (S : mS) : skM k b v S = sbM k b v (nt S.1 (nI k), phM S.2 k 0) := by cases k <;> rfl
/-- a chain's upper end: an answer's mark, or a place in the tables -/
theorem chM_t {M : mM} {f g : Nat → Int32} {n : Nat} {t : Int32} (h : chM M f g n t) (hM : M.2.2.2.1 ≤ 4096) : t < 0 ∨ ∃ j : Nat, j < 4096 ∧ t = nI j := by
  cases n with
  | zero => left; rw [show t = -1 from h]; decide
  | succ n =>
    obtain ⟨j, e, a, -⟩ := h
    exact Or.inr ⟨j, by omega, e⟩
def sGD (C : rC) (k : Nat) : Prop := ∀ (b v : Int32) (N : rN) (T : rT) (M : mM), T.2.2 = 0 → N.2 + cgF k < 98000 → M.2.2.2.1 + cgF k < 4000 →
  ∃ (t : Int32) (S : mS), mRch C k 0 (sbM k b v (N, M)).2 (sbM k b v (N, M)).1 k t S ∧ vR (k + 1) (gdF C k b v (N, T)).1 (gdF C k b v (N, T)).2 (upM C k t S) t ∧ (∀ j, k ≤ j → S.2.2.2.2.2.2 j = M.2.2.2.2.2 j) ∧ S.2.2.2.2.1 ≤ M.2.2.2.1 + cgF k
def sDL (C : rC) (k : Nat) : Prop := ∀ (b v : Int32) (N : rN) (T : rT) (M : mM), T.2.2 = 0 → N.2 + (3 + 2 * cgF k) < 98000 → M.2.2.2.1 + (3 + 2 * cgF k) < 4000 →
  ∃ (t : Int32) (S : mS), mRch C k 0 (skM k b v (N, M)).2 (skM k b v (N, M)).1 (k + 1) t S ∧ vR (k + 2) (dlF C k (gdF C k) b v (N, T)).1 (dlF C k (gdF C k) b v (N, T)).2 S t ∧ (∀ j, k < j → S.2.2.2.2.2.2 j = M.2.2.2.2.2 j) ∧ S.2.2.2.2.1 ≤ M.2.2.2.1 + (3 + 2 * cgF k)
theorem sGD_0 (C : rC) : sGD C 0 := by
  intro b v N T M hT hN hM
  refine ⟨(btM b v (N, M)).2, (btM b v (N, M)).1, mRch.rf, ?_, ?_, ?_⟩
  · have : upM C 0 (btM b v (N, M)).2 (btM b v (N, M)).1 = (btM b v (N, M)).1 := if_neg (by decide)
    rw [this]
    exact rb_btM b v N T M hT
  · intro j _
    rw [btM_ph]
  · exact Nat.le_trans (btM_b b v (N, M)).2 (show M.2.2.2.1 + 1 ≤ M.2.2.2.1 + 3 by omega)
theorem sGD_S (C : rC) (k : Nat) (h : sDL C k) : sGD C (k + 1) := by
  intro b v N T M hT hN hM
  obtain ⟨t, S, h1, h2, h3, h4⟩ := h b v N T M hT hN hM
  refine ⟨t, S, h1.up (Nat.le_succ _), ?_, fun j hj => h3 j hj, h4⟩
  show vR (k + 2) (dlF C k (gdF C k) b v (N, T)).1 ((dlF C k (gdF C k) b v (N, T)).2 + (C.2.2.2 (k + 1)).toInt64) (upM C (k + 1) t S) t
  have hM : M.2.2.2.1 + (3 + 2 * cgF k) < 4000 := hM
  generalize dlF C k (gdF C k) b v (N, T) = r at h2 ⊢
  obtain ⟨a1, a2, a3, a4, a5⟩ := h2
  unfold upM
  rw [if_pos (Nat.succ_pos k)]
  by_cases hz : r.1.2.2.2 = 0
  · have et : t = -1 := by rw [hz] at a2; exact a2
    rw [if_pos (by rw [et]; decide)]
    exact ⟨a1, chM_eq (M := S.2) (M' := anM S.2 (S.2.2.2.2.2.1 + (C.2.2.2 (k + 1)).toInt64)) rfl rfl rfl rfl _ _ a2, fun _ => by show S.2.2.2.2.2.1 + _ = _; rw [a3 hz], a4, a5⟩
  · have hn : ¬ t < 0 := by
      obtain ⟨n, hn⟩ := Nat.exists_eq_succ_of_ne_zero hz
      rw [hn] at a2
      obtain ⟨j, e, lt, -⟩ := a2
      rw [e]
      exact nI_pos (by omega)
    rw [if_neg hn]
    exact ⟨a1, a2, fun e => absurd e hz, a4, a5⟩
theorem m2_ne {j : Nat} (h : j < 2 ^ 31) : ¬ nI j = -2 := fun e => nI_pos h (by rw [e]; decide)
set_option maxHeartbeats 4000000 in
theorem sDL_of (C : rC) (k : Nat) (hk : k < 6) (h : sGD C k) : sDL C k := by
  intro b v N T M hT hN hM
  obtain ⟨t1, S1, r1, v1, p1, c1⟩ := h b v (nt N (nI k)) T (phM M k 0) hT (by rw [nt_2]; omega) (by show M.2.2.2.1 + _ < _; omega)
  have c1 : S1.2.2.2.2.1 ≤ M.2.2.2.1 + cgF k := c1
  have g2 : (gdF C k b v (nt N (nI k), T)).1.1.2 ≤ N.2 + 1 + cgF k := (gdF_h C k b v (nt N (nI k), T) (by rw [hT]; exact Nat.zero_le _)).2
  have hp : S1.2.2.2.2.2.2 k = 0 := (p1 k (Nat.le_refl _)).trans pk_us
  have hpj : ∀ j, k < j → S1.2.2.2.2.2.2 j = M.2.2.2.2.2 j := fun j hj => (p1 j (Nat.le_of_lt hj)).trans (pk_un (by omega))
  obtain ⟨u1, u2, u3⟩ := upM_b C k t1 S1
  rw [sk_sb]
  show ∃ (t : Int32) (S : mS), mRch C k 0 (sbM k b v (nt N (nI k), phM M k 0)).2 (sbM k b v (nt N (nI k), phM M k 0)).1 (k + 1) t S ∧ vR (k + 2) (laF C k (if tkB (C.1 k) (kdT (gdF C k b v (nt N (nI k), T)).1.2) = 0 then gdF C k b v (nt N (nI k), T) else thF C k (gdF C k) (gdF C k b v (nt N (nI k), T)).1).2 (if tkB (C.1 k) (kdT (gdF C k b v (nt N (nI k), T)).1.2) = 0 then gdF C k b v (nt N (nI k), T) else thF C k (gdF C k) (gdF C k b v (nt N (nI k), T)).1).1).1 (laF C k (if tkB (C.1 k) (kdT (gdF C k b v (nt N (nI k), T)).1.2) = 0 then gdF C k b v (nt N (nI k), T) else thF C k (gdF C k) (gdF C k b v (nt N (nI k), T)).1).2 (if tkB (C.1 k) (kdT (gdF C k b v (nt N (nI k), T)).1.2) = 0 then gdF C k b v (nt N (nI k), T) else thF C k (gdF C k) (gdF C k b v (nt N (nI k), T)).1).1).2 S t ∧ (∀ j, k < j → S.2.2.2.2.2.2 j = M.2.2.2.2.2 j) ∧ S.2.2.2.2.1 ≤ M.2.2.2.1 + (3 + 2 * cgF k)
  generalize gdF C k b v (nt N (nI k), T) = rr at v1 g2 ⊢
  generalize (sbM k b v (nt N (nI k), phM M k 0)).1 = B1 at r1 ⊢
  generalize (sbM k b v (nt N (nI k), phM M k 0)).2 = B2 at r1 ⊢
  have fin : ∀ (t2 : Int32) (S2 : mS) (r2 : rS × Int64), vR (k + 2) r2.1 r2.2 S2 t2 → (∀ j, k < j → S2.2.2.2.2.2.2 j = M.2.2.2.2.2 j) → S2.2.2.2.2.1 ≤ M.2.2.2.1 + (2 + 2 * cgF k) → mRch C k 0 B2 B1 (k + 1) (lsM C k t2 S2).2 (lsM C k t2 S2).1 →
      ∃ (t : Int32) (S : mS), mRch C k 0 B2 B1 (k + 1) t S ∧ vR (k + 2) (laF C k r2.2 r2.1).1 (laF C k r2.2 r2.1).2 S t ∧ (∀ j, k < j → S.2.2.2.2.2.2 j = M.2.2.2.2.2 j) ∧ S.2.2.2.2.1 ≤ M.2.2.2.1 + (3 + 2 * cgF k) := by
    intro t2 S2 r2 hv hj hc hR
    refine ⟨_, _, hR, la_lsM C k (by omega) hv, fun j hj1 => ?_, ?_⟩
    · rw [(lsM_b C k t2 S2).1]; exact hj j hj1
    · have := (lsM_b C k t2 S2).2; omega
  obtain ⟨a1, a2, a3, a4, a5⟩ := v1
  have hU1 : (upM C k t1 S1).1 = rr.1.1 := a1
  have hn1 : S1.1.2 < 99000 := by rw [← u1, a1]; omega
  have ok : mOk t1 S1 := ⟨hn1, by omega, chM_t a2 (by rw [u3]; omega)⟩
  have st := r1.tr (mRch.one (Nat.le_refl k) ok)
  by_cases hz : rr.1.2.2.2 = 0
  · have et : t1 = -1 := by rw [hz] at a2; exact a2
    have ekd : kdT rr.1.2 = 0 := by unfold kdT; rw [if_neg (by omega)]
    rw [if_pos (by rw [ekd]; exact tk_0 _)]
    have est : stM C k t1 S1 = (k + 1, (lsM C k t1 (upM C k t1 S1)).2, (lsM C k t1 (upM C k t1 S1)).1) := if_pos (by rw [et]; decide)
    rw [est] at st
    exact fin t1 (upM C k t1 S1) rr ⟨a1, a2, a3, a4, by omega⟩ (fun j hj => by rw [u2]; exact hpj j hj) (by rw [u3]; omega) st
  · obtain ⟨n, hn⟩ := Nat.exists_eq_succ_of_ne_zero hz
    have ekd : kdT rr.1.2 = rr.1.2.1 n := by unfold kdT; rw [if_pos (by omega), hn]; rfl
    have hok : kOk (kdT rr.1.2) := a4 (by omega)
    have a2n := a2
    rw [hn] at a2n
    obtain ⟨j, ej, lj, kj, nj, cj⟩ := a2n
    rw [u3] at lj
    have lj2 : j < 2 ^ 31 := by omega
    have ek2 : (upM C k t1 S1).2.1 j = kdT rr.1.2 := kj.trans ekd.symm
    have htn : ¬ t1 < 0 := by rw [ej]; exact nI_pos lj2
    have est : stM C k t1 S1 = (if ¬ (hdM C k j (upM C k t1 S1)).2 = -2 then (k + 1, (lsM C k (hdM C k j (upM C k t1 S1)).2 (hdM C k j (upM C k t1 S1)).1).2, (lsM C k (hdM C k j (upM C k t1 S1)).2 (hdM C k j (upM C k t1 S1)).1).1) else
        if k = 0 then (let q := btM 0 (C.2.2.2 0) ((hdM C k j (upM C k t1 S1)).1.1, phM (hdM C k j (upM C k t1 S1)).1.2 0 1); (1, (lsM C 0 q.2 q.1).2, (lsM C 0 q.2 q.1).1))
        else (let q := skM (k - 1) 0 (C.2.2.2 k) ((hdM C k j (upM C k t1 S1)).1.1, phM (hdM C k j (upM C k t1 S1)).1.2 k 1); (0, q.2, q.1))) := by
      unfold stM
      dsimp only
      rw [if_neg htn, if_neg (fun h => h (by rw [u2]; exact hp))]
      rw [show t1.toNatClampNeg = j from by rw [ej]; exact nI_clamp lj2]
    rw [est] at st
    clear est
    generalize hU : upM C k t1 S1 = U at *
    by_cases htk : tkB (C.1 k) (kdT rr.1.2) = 0
    · rw [if_pos htk]
      have eh : hdM C k j U = (U, nI j) := if_pos (by rw [ek2]; exact (tk_k hok).mp htk)
      rw [eh, if_pos (m2_ne lj2)] at st
      exact fin (nI j) U rr ⟨a1, ej ▸ a2, a3, a4, by omega⟩ (fun j hj => by rw [u2]; exact hpj j hj) (by rw [u3]; omega) st
    · rw [if_neg htk]
      have eh : hdM C k j U = (let N := nt U.1 (100 * U.2.1 j + nI k)
          if C.2.1 k = 0 then ((N, anM U.2 (C.2.2.2 k).toInt64), -1) else if C.2.1 k = 1 then ((N, U.2), nI j) else if C.2.1 k = 2 then ((N, mkM U.2 1 (C.2.2.2 k) (nI j)), nI U.2.2.2.2.1) else if C.2.1 k = 3 then ((N, mkM U.2 2 (C.2.2.2 k) (nI j)), nI U.2.2.2.2.1) else
          if C.2.1 k = 4 then ((N, mkM U.2 3 0 (-1)), nI U.2.2.2.2.1) else ((N, U.2), -2)) := if_neg (by rw [ek2]; exact fun q => htk ((tk_k hok).mpr q))
      dsimp only at eh
      rw [hU1, ek2] at eh
      have eth : thF C k (gdF C k) rr.1 = (let N := nt rr.1.1 (100 * kdT rr.1.2 + nI k)
          if C.2.1 k = 0 then ((N, dpT rr.1.2), (C.2.2.2 k).toInt64) else if C.2.1 k = 1 then ((N, rr.1.2), 0) else if C.2.1 k = 2 then ((N, wpT rr.1.2 1 (C.2.2.2 k)), 0) else if C.2.1 k = 3 then ((N, wpT rr.1.2 2 (C.2.2.2 k)), 0) else
          if C.2.1 k = 4 then ((N, tnT rr.1.2 3 0), 0) else gdF C k 0 (C.2.2.2 k) (N, dpT rr.1.2)) := rfl
      dsimp only at eth
      have hN2 : (nt rr.1.1 (100 * kdT rr.1.2 + nI k)).2 = rr.1.1.2 + 1 := rfl
      generalize nt rr.1.1 (100 * kdT rr.1.2 + nI k) = N' at eh eth hN2
      have hph : ∀ i, k < i → U.2.2.2.2.2.2 i = M.2.2.2.2.2 i := fun i hi => by rw [u2]; exact hpj i hi
      have hct : U.2.2.2.2.1 ≤ M.2.2.2.1 + cgF k := by rw [u3]; exact c1
      have hct2 : U.2.2.2.2.1 < 2 ^ 31 := by omega
      have h7 : rr.1.2.2.2 < 7 := by omega
      by_cases c0 : C.2.1 k = 0
      · rw [if_pos c0] at eh eth
        rw [eh, if_pos (show ¬ (-1 : Int32) = -2 by decide)] at st
        rw [eth]
        exact fin (-1) (N', anM U.2 (C.2.2.2 k).toInt64) ((N', dpT rr.1.2), (C.2.2.2 k).toInt64) vR.dp hph (by show U.2.2.2.2.1 ≤ _; omega) st
      · rw [if_neg c0] at eh eth
        by_cases c1 : C.2.1 k = 1
        · rw [if_pos c1] at eh eth
          rw [eh, if_pos (m2_ne lj2)] at st
          rw [eth]
          exact fin (nI j) (N', U.2) ((N', rr.1.2), 0) ⟨rfl, ej ▸ a2, fun q => absurd q hz, a4, by show rr.1.2.2.2 ≤ _; omega⟩ hph (by show U.2.2.2.2.1 ≤ _; omega) st
        · rw [if_neg c1] at eh eth
          by_cases c2 : C.2.1 k = 2
          · rw [if_pos c2] at eh eth
            rw [eh, if_pos (m2_ne hct2)] at st
            rw [eth]
            exact fin (nI U.2.2.2.2.1) (N', mkM U.2 1 (C.2.2.2 k) (nI j)) ((N', wpT rr.1.2 1 (C.2.2.2 k)), 0) ((vR.mk (ej ▸ a2) h7 k1).le (by omega)) hph (by show U.2.2.2.2.1 + 1 ≤ _; omega) st
          · rw [if_neg c2] at eh eth
            by_cases c3 : C.2.1 k = 3
            · rw [if_pos c3] at eh eth
              rw [eh, if_pos (m2_ne hct2)] at st
              rw [eth]
              exact fin (nI U.2.2.2.2.1) (N', mkM U.2 2 (C.2.2.2 k) (nI j)) ((N', wpT rr.1.2 2 (C.2.2.2 k)), 0) ((vR.mk (ej ▸ a2) h7 k2).le (by omega)) hph (by show U.2.2.2.2.1 + 1 ≤ _; omega) st
            · rw [if_neg c3] at eh eth
              by_cases c4 : C.2.1 k = 4
              · rw [if_pos c4] at eh eth
                rw [eh, if_pos (m2_ne hct2)] at st
                rw [eth]
                exact fin (nI U.2.2.2.2.1) (N', mkM U.2 3 0 (-1)) ((N', tnT rr.1.2 3 0), 0) (vR.tn k3 (by omega)) hph (by show U.2.2.2.2.1 + 1 ≤ _; omega) st
              · rw [if_neg c4] at eh eth
                rw [eh, if_neg (fun q => q rfl)] at st
                rw [eth]
                cases k with
                | zero =>
                  rw [if_pos rfl] at st
                  dsimp only at st
                  have hb := btM_b 0 (C.2.2.2 0) (N', phM U.2 0 1)
                  refine fin (btM 0 (C.2.2.2 0) (N', phM U.2 0 1)).2 (btM 0 (C.2.2.2 0) (N', phM U.2 0 1)).1 (gdF C 0 0 (C.2.2.2 0) (N', dpT rr.1.2)) ((rb_btM 0 (C.2.2.2 0) N' (dpT rr.1.2) (phM U.2 0 1) rfl).le (by omega)) (fun i hi => ?_) ?_ st
                  · rw [btM_ph]
                    exact (pk_un (by omega)).trans (hph i hi)
                  · refine Nat.le_trans hb.2 (show U.2.2.2.2.1 + 1 ≤ _ from ?_)
                    omega
                | succ k' =>
                  rw [if_neg (Nat.succ_ne_zero k')] at st
                  dsimp only at st
                  obtain ⟨t2, S2, q1, q2, q3, q4⟩ := h 0 (C.2.2.2 (k' + 1)) N' (dpT rr.1.2) (phM U.2 (k' + 1) 1) rfl (by rw [hN2]; omega) (by show U.2.2.2.2.1 + _ < _; omega)
                  have q4 : S2.2.2.2.2.1 ≤ U.2.2.2.2.1 + cgF (k' + 1) := q4
                  have g3 : (gdF C (k' + 1) 0 (C.2.2.2 (k' + 1)) (N', dpT rr.1.2)).1.1.2 ≤ N'.2 + cgF (k' + 1) := (gdF_h C (k' + 1) 0 (C.2.2.2 (k' + 1)) (N', dpT rr.1.2) (Nat.zero_le _)).2
                  have st2 := st.tr q1
                  obtain ⟨w1, w2, w3⟩ := upM_b C (k' + 1) t2 S2
                  have ok2 : mOk t2 S2 := ⟨by rw [← w1, q2.1]; omega, by omega, chM_t q2.2.1 (by rw [w3]; omega)⟩
                  have st3 := st2.tr (mRch.one (Nat.le_refl (k' + 1)) ok2)
                  have hp2 : (upM C (k' + 1) t2 S2).2.2.2.2.2.2 (k' + 1) = 1 := by rw [w2, q3 (k' + 1) (Nat.le_refl _)]; exact pk_us
                  have est2 : stM C (k' + 1) t2 S2 = (k' + 1 + 1, (lsM C (k' + 1) t2 (upM C (k' + 1) t2 S2)).2, (lsM C (k' + 1) t2 (upM C (k' + 1) t2 S2)).1) := by
                    by_cases ht2 : t2 < 0
                    · exact if_pos ht2
                    · exact (if_neg ht2).trans (if_pos (by rw [hp2]; decide))
                  rw [est2] at st3
                  refine fin t2 (upM C (k' + 1) t2 S2) (gdF C (k' + 1) 0 (C.2.2.2 (k' + 1)) (N', dpT rr.1.2)) (q2.le (by omega)) (fun i hi => ?_) ?_ st3
                  · rw [w2, q3 i (by omega)]
                    exact (pk_un (by omega)).trans (hph i hi)
                  · rw [w3]; omega
theorem sim_all (C : rC) : ∀ k : Nat, k < 6 → sGD C k ∧ sDL C k := by
  intro k
  induction k with
  | zero => intro hk; exact ⟨sGD_0 C, sDL_of C 0 hk (sGD_0 C)⟩
  | succ k ih =>
    intro hk
    have h := sGD_S C k (ih (by omega)).2
    exact ⟨h, sDL_of C (k + 1) hk h⟩
/-- a run: the rig's, and the reference's from its own start -/
theorem sim_run (C : rC) (k : Nat) (hk : k < 6) (b v : Int32) (N : rN) (T : rT) (M : mM) : ∃ (t : Int32) (S : mS), mRch C k 0 (skM k b v ((N.1, 0), (M.1, M.2.1, M.2.2.1, 0, M.2.2.2.2))).2 (skM k b v ((N.1, 0), (M.1, M.2.1, M.2.2.1, 0, M.2.2.2.2))).1 (k + 1) t S ∧
    vR 7 (dlF C k (gdF C k) b v ((N.1, 0), dpT T)).1 (dlF C k (gdF C k) b v ((N.1, 0), dpT T)).2 S t ∧ S.2.2.2.2.1 ≤ 4000 ∧ (dlF C k (gdF C k) b v ((N.1, 0), dpT T)).1.1.2 < 99000 := by
  have hc : ∀ k : Nat, k < 6 → 3 + 2 * cgF k < 1000 := by decide
  have hc := hc k hk
  obtain ⟨t, S, h1, h2, -, h4⟩ := (sim_all C k hk).2 b v (N.1, 0) (dpT T) (M.1, M.2.1, M.2.2.1, 0, M.2.2.2.2) rfl (by show 0 + _ < _; omega) (by show 0 + _ < _; omega)
  have h4 : S.2.2.2.2.1 ≤ 0 + (3 + 2 * cgF k) := h4
  have h5 := (dlF_h (C := C) (k := k) (gdF_h C k) b v ((N.1, 0), dpT T) (Nat.zero_le _)).2
  have h5 : (dlF C k (gdF C k) b v ((N.1, 0), dpT T)).1.1.2 ≤ 0 + (3 + 2 * cgF k) := h5
  exact ⟨t, S, h1, h2.le (by omega), by omega, by omega⟩
