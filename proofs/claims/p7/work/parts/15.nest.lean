/-! THE NOTES OF A RUN AS A LIST, and how the levels stand in one another in it -/
def kOk (x : Int32) : Prop := x = 1 ∨ x = 2 ∨ x = 3 ∨ x = 4 ∨ x = 5
theorem k1 : kOk 1 := Or.inl rfl
theorem k2 : kOk 2 := Or.inr (Or.inl rfl)
theorem k3 : kOk 3 := Or.inr (Or.inr (Or.inl rfl))
theorem k4 : kOk 4 := Or.inr (Or.inr (Or.inr (Or.inl rfl)))
theorem k5 : kOk 5 := Or.inr (Or.inr (Or.inr (Or.inr rfl)))
/-- notes that are made one behind the other -/
def apN (N : rN) : List Int32 → rN
  | [] => N
  | x :: L => apN (nt N x) L
theorem apN_app (N : rN) (a b : List Int32) : apN N (a ++ b) = apN (apN N a) b := by
  induction a generalizing N with
  | nil => rfl
  | cons x a ih => exact ih (nt N x)
theorem apN_2 (N : rN) (a : List Int32) : (apN N a).2 = N.2 + a.length := by
  induction a generalizing N with
  | nil => rfl
  | cons x a ih =>
    show (apN (nt N x) a).2 = _
    rw [ih, nt_2, List.length_cons]
    omega
theorem nt_lo {N : rN} {x : Int32} {j : Nat} (h : j < N.2) : (nt N x).1 j = N.1 j := by
  unfold nt
  split
  · exact pk_un (by omega)
  · rfl
theorem nt_at {N : rN} {x : Int32} (h : N.2 < 64) : (nt N x).1 N.2 = x := by
  unfold nt
  rw [if_pos h]
  exact pk_us
theorem apN_lo (a : List Int32) : ∀ (N : rN) (j : Nat), j < N.2 → (apN N a).1 j = N.1 j := by
  induction a with
  | nil => intro N j _; rfl
  | cons x a ih =>
    intro N j h
    exact (ih (nt N x) j (by rw [nt_2]; omega)).trans (nt_lo h)
theorem apN_at (a : List Int32) : ∀ (N : rN) (j : Nat) (x : Int32), a[j]? = some x → N.2 + j < 64 → (apN N a).1 (N.2 + j) = x := by
  induction a with
  | nil => intro N j x h; simp at h
  | cons y a ih =>
    intro N j x h h1
    cases j with
    | zero =>
      have e : y = x := by simpa using h
      subst e
      exact (apN_lo a (nt N y) N.2 (by rw [nt_2]; omega)).trans (nt_at (by omega))
    | succ j =>
      have q := ih (nt N y) j x (by simpa using h) (by rw [nt_2]; omega)
      rw [nt_2] at q
      show (apN (nt N y) a).1 (N.2 + (j + 1)) = x
      rw [show N.2 + (j + 1) = N.2 + 1 + j by omega]
      exact q
/-- neither a level nor the closing of level k -/
def otN (k : Nat) (x : Int32) : Prop := ¬ (0 ≤ x ∧ x < 6) ∧ ¬ x = 600 + nI k
/-- these notes take the lowest open level from k to k', and none above B is the lowest while one more comes -/
def bkN (B : Nat) : List Int32 → Nat → Nat → Prop
  | [], k, k' => k = k'
  | x :: L, k, k' => k ≤ B ∧ ((∃ c : Nat, k = c + 1 ∧ x = nI c ∧ bkN B L c k') ∨ (x = 600 + nI k ∧ bkN B L (k + 1) k') ∨ (otN k x ∧ bkN B L k k'))
theorem bkN_app {B : Nat} {b : List Int32} {k2 k3 : Nat} (h2 : bkN B b k2 k3) (a : List Int32) : ∀ k1 : Nat, bkN B a k1 k2 → bkN B (a ++ b) k1 k3 := by
  induction a with
  | nil =>
    intro k1 h1
    have e : k1 = k2 := h1
    subst e
    exact h2
  | cons x a ih =>
    intro k1 h1
    obtain ⟨hb, h⟩ := h1
    refine ⟨hb, ?_⟩
    rcases h with ⟨c, e1, e2, h⟩ | ⟨e, h⟩ | ⟨e, h⟩
    · exact Or.inl ⟨c, e1, e2, ih c h⟩
    · exact Or.inr (Or.inl ⟨e, ih (k1 + 1) h⟩)
    · exact Or.inr (Or.inr ⟨e, ih k1 h⟩)
theorem bkN_le {B B' : Nat} (hB : B ≤ B') {k2 : Nat} (a : List Int32) : ∀ k1 : Nat, bkN B a k1 k2 → bkN B' a k1 k2 := by
  induction a with
  | nil => intro k1 h1; exact h1
  | cons x a ih =>
    intro k1 h1
    obtain ⟨hb, h⟩ := h1
    refine ⟨Nat.le_trans hb hB, ?_⟩
    rcases h with ⟨c, e1, e2, h⟩ | ⟨e, h⟩ | ⟨e, h⟩
    · exact Or.inl ⟨c, e1, e2, ih c h⟩
    · exact Or.inr (Or.inl ⟨e, ih (k1 + 1) h⟩)
    · exact Or.inr (Or.inr ⟨e, ih k1 h⟩)
-- what is thrown is of a kind
def kdO (T : rT) : Prop := kdT T = 0 ∨ kOk (kdT T)
theorem kdO_dp (T : rT) : kdO (dpT T) := Or.inl (if_neg (Nat.lt_irrefl 0))
theorem kdO_wp {T : rT} {k n : Int32} (h : kdO T) (hk : kOk k) : kdO (wpT T k n) := by
  unfold wpT
  split
  · right
    rw [show kdT (upd T.1 T.2.2 k, upd T.2.1 T.2.2 n, T.2.2 + 1) = k from (if_pos (Nat.succ_pos _)).trans pk_us]
    exact hk
  · exact h
theorem kdO_tn (T : rT) (k n : Int32) (hk : kOk k) : kdO (tnT T k n) := kdO_wp (kdO_dp T) hk
-- the numbers of the notes
theorem rem_100 (v : Int32) : -100 < (v - v / 100 * 100).toInt ∧ (v - v / 100 * 100).toInt < 100 := by
  have h0 : -2 ^ 31 ≤ v.toInt := v.le_toInt
  have h1 : v.toInt < 2 ^ 31 := v.toInt_lt
  have e := Int.tdiv_mul_add_tmod v.toInt 100
  have a1 := Int.tmod_lt_of_pos v.toInt (b := 100) (by decide)
  have a2 := Int.lt_tmod_of_pos v.toInt (b := 100) (by decide)
  have d : (v / 100).toInt = (v.toInt.tdiv 100).bmod (2 ^ 32) := Int32.toInt_div v 100
  generalize v.toInt.tdiv 100 = q at e d
  generalize v.toInt.tmod 100 = r at e a1 a2
  rw [Int.bmod_eq_of_le (by omega) (by omega)] at d
  have d3 : (v - v / 100 * 100).toInt = r := by
    rw [Int32.toInt_sub, Int32.toInt_mul, d, show (100 : Int32).toInt = 100 from rfl, Int.sub_bmod_bmod, show v.toInt - q * 100 = r by omega]
    exact Int.bmod_eq_of_le (by omega) (by omega)
  omega
theorem otN_hi {x : Int32} (h : 600 < x.toInt) : otN 0 x := by
  refine ⟨fun q => ?_, fun q => ?_⟩
  · have := Int32.lt_iff_toInt_lt.mp q.2
    have e : (6 : Int32).toInt = 6 := rfl
    omega
  · rw [q] at h
    exact absurd h (by decide)
theorem otN_dp (v : Int32) : otN 0 (dpN v) := by
  obtain ⟨h1, h2⟩ := rem_100 v
  refine otN_hi ?_
  unfold dpN
  rw [Int32.toInt_add, show (700 : Int32).toInt = 700 from rfl, Int.bmod_eq_of_le (by omega) (by omega)]
  omega
theorem otN_kd {k : Nat} (hk : k < 6) {x : Int32} (hx : kOk x) : otN k (100 * x + nI k) := by
  unfold otN
  revert k
  rcases hx with rfl | rfl | rfl | rfl | rfl <;> decide +kernel
-- what the levels note
theorem rbF_n (b v : Int32) (S : rS) (hT : kdO S.2) : ∃ m : List Int32, (rbF b v S).1.1 = apN S.1 m ∧ bkN 0 m 0 0 ∧ kdO (rbF b v S).1.2 := by
  unfold rbF
  repeat' split
  all_goals first
    | exact ⟨[], rfl, rfl, kdO_tn _ _ _ k1⟩
    | exact ⟨[], rfl, rfl, kdO_tn _ _ _ k2⟩
    | exact ⟨[], rfl, rfl, kdO_tn _ _ _ k3⟩
    | exact ⟨[], rfl, rfl, kdO_tn _ _ _ k4⟩
    | exact ⟨[], rfl, rfl, kdO_tn _ _ _ k5⟩
    | exact ⟨[], rfl, rfl, hT⟩
    | exact ⟨[dpN v, dpN v, dpN v], rfl, ⟨Nat.le_refl 0, Or.inr (Or.inr ⟨otN_dp v, Nat.le_refl 0, Or.inr (Or.inr ⟨otN_dp v, Nat.le_refl 0, Or.inr (Or.inr ⟨otN_dp v, rfl⟩)⟩)⟩)⟩, kdO_tn _ _ _ k1⟩
def gdN (k : Nat) (g : Int32 → Int32 → rS → rS × Int64) : Prop := ∀ (b v : Int32) (S : rS), kdO S.2 → ∃ m : List Int32, (g b v S).1.1 = apN S.1 m ∧ bkN k m k k ∧ kdO (g b v S).1.2
theorem thF_n {C : rC} {k : Nat} (hk : k < 6) {g : Int32 → Int32 → rS → rS × Int64} (hg : gdN k g) (S : rS) (h0 : kOk (kdT S.2)) : ∃ m : List Int32, (thF C k g S).1.1 = apN S.1 m ∧ bkN k m k k ∧ kdO (thF C k g S).1.2 := by
  have hT : kdO S.2 := Or.inr h0
  have one : bkN k [100 * kdT S.2 + nI k] k k := ⟨Nat.le_refl k, Or.inr (Or.inr ⟨otN_kd hk h0, rfl⟩)⟩
  obtain ⟨m, e, h1, h2⟩ := hg 0 (C.2.2.2 k) (nt S.1 (100 * kdT S.2 + nI k), dpT S.2) (kdO_dp _)
  unfold thF
  dsimp only
  repeat' split
  all_goals first
    | exact ⟨(100 * kdT S.2 + nI k) :: m, e, bkN_app h1 [100 * kdT S.2 + nI k] k one, h2⟩
    | exact ⟨[100 * kdT S.2 + nI k], rfl, one, kdO_dp _⟩
    | exact ⟨[100 * kdT S.2 + nI k], rfl, one, hT⟩
    | exact ⟨[100 * kdT S.2 + nI k], rfl, one, kdO_wp hT k1⟩
    | exact ⟨[100 * kdT S.2 + nI k], rfl, one, kdO_wp hT k2⟩
    | exact ⟨[100 * kdT S.2 + nI k], rfl, one, kdO_tn _ _ _ k3⟩
theorem laF_n (C : rC) (k : Nat) (a : Int64) (S : rS) (hT : kdO S.2) : (laF C k a S).1.1 = nt S.1 (600 + nI k) ∧ kdO (laF C k a S).1.2 := by
  unfold laF
  dsimp only
  repeat' split
  all_goals first
    | exact ⟨rfl, hT⟩
    | exact ⟨rfl, kdO_dp _⟩
    | exact ⟨rfl, kdO_tn _ _ _ k1⟩
    | exact ⟨rfl, kdO_tn _ _ _ k3⟩
theorem dlF_n {C : rC} {k : Nat} (hk : k < 6) {g : Int32 → Int32 → rS → rS × Int64} (hg : gdN k g) (b v : Int32) (S : rS) (hT : kdO S.2) : ∃ m : List Int32, (dlF C k g b v S).1.1 = apN S.1 (nI k :: (m ++ [600 + nI k])) ∧ bkN k m k k ∧ kdO (dlF C k g b v S).1.2 := by
  obtain ⟨m1, e1, b1, t1⟩ := hg b v (nt S.1 (nI k), S.2) hT
  have e1 : (g b v (nt S.1 (nI k), S.2)).1.1 = apN (nt S.1 (nI k)) m1 := e1
  unfold dlF
  dsimp only
  generalize g b v (nt S.1 (nI k), S.2) = S1 at e1 t1 ⊢
  split
  · obtain ⟨q1, q2⟩ := laF_n C k S1.2 S1.1 t1
    refine ⟨m1, ?_, b1, q2⟩
    rw [q1, e1]
    show nt (apN (nt S.1 (nI k)) m1) (600 + nI k) = apN (nt S.1 (nI k)) (m1 ++ [600 + nI k])
    rw [apN_app]
    rfl
  · rename_i hne
    have h0 : kOk (kdT S1.1.2) := t1.resolve_left (fun e => hne (by rw [e]; rfl))
    obtain ⟨m2, e2, b2, t2⟩ := thF_n (C := C) hk hg S1.1 h0
    obtain ⟨q1, q2⟩ := laF_n C k (thF C k g S1.1).2 (thF C k g S1.1).1 t2
    refine ⟨m1 ++ m2, ?_, bkN_app b2 m1 k b1, q2⟩
    rw [q1, e2, e1]
    show nt (apN (apN (nt S.1 (nI k)) m1) m2) (600 + nI k) = apN (nt S.1 (nI k)) (m1 ++ m2 ++ [600 + nI k])
    rw [apN_app, apN_app]
    rfl
theorem gdF_n (C : rC) : ∀ k : Nat, k < 6 → gdN k (gdF C k) := by
  intro k
  induction k with
  | zero => intro _ b v S hT; exact rbF_n b v S hT
  | succ k ih =>
    intro hk b v S hT
    obtain ⟨m, e, h, t⟩ := dlF_n (C := C) (by omega) (ih (by omega)) b v S hT
    have h9 : bkN (k + 1) [600 + nI k] k (k + 1) := ⟨Nat.le_succ k, Or.inr (Or.inl ⟨rfl, rfl⟩)⟩
    exact ⟨nI k :: (m ++ [600 + nI k]), e, ⟨Nat.le_refl _, Or.inl ⟨k, rfl, rfl, bkN_app h9 m k (bkN_le (Nat.le_succ k) m k h)⟩⟩, t⟩
/-- a run's notes: the level that it begins with, and what closes it at last -/
theorem run_n (C : rC) {k : Nat} (hk : k < 6) (b v : Int32) (N : rN) (T : rT) : ∃ r : List Int32, (dlF C k (gdF C k) b v ((N.1, 0), dpT T)).1.1 = apN (N.1, 0) (nI k :: r) ∧ bkN k r k (k + 1) ∧ kdO (dlF C k (gdF C k) b v ((N.1, 0), dpT T)).1.2 := by
  obtain ⟨m, e, h, t⟩ := dlF_n (C := C) hk (gdF_n C k hk) b v ((N.1, 0), dpT T) (kdO_dp T)
  have h9 : bkN k [600 + nI k] k (k + 1) := ⟨Nat.le_refl k, Or.inr (Or.inl ⟨rfl, rfl⟩)⟩
  exact ⟨m ++ [600 + nI k], e, bkN_app h9 m k h, t⟩
/-- what stays small behind a run -/
theorem run_h (C : rC) {k : Nat} (hk : k < 6) (b v : Int32) (N : rN) (T : rT) : (dlF C k (gdF C k) b v ((N.1, 0), dpT T)).1.1.2 < 99000 ∧ (dlF C k (gdF C k) b v ((N.1, 0), dpT T)).1.2.2.2 ≤ 7 := by
  have h := dlF_h (C := C) (k := k) (gdF_h C k) b v ((N.1, 0), dpT T) (Nat.zero_le _)
  exact ⟨Nat.lt_of_le_of_lt h.2 (cgF_le k hk), h.1⟩
/-- the level with which the law begins a run -/
theorem top_of (x : Int32) : ∃ k : Nat, k < 6 ∧ (x &&& 15) - (x &&& 15) / 6 * 6 = nI k := by
  have h : ∃ j : Nat, j < 16 ∧ x &&& 15 = nI j := by
    refine ⟨(x.toBitVec &&& 15#32).toNat, ?_, ?_⟩
    · rw [BitVec.toNat_and]
      exact Nat.lt_of_le_of_lt Nat.and_le_right (by decide)
    · apply Int32.toBitVec_inj.mp
      show x.toBitVec &&& 15#32 = BitVec.ofNat 32 _
      simp
  obtain ⟨j, hj, e⟩ := h
  rw [e]
  have h2 : ∀ j : Nat, j < 16 → nI j - nI j / 6 * 6 = nI (j % 6) := by decide +kernel
  exact ⟨j % 6, Nat.mod_lt j (by decide), h2 j hj⟩
