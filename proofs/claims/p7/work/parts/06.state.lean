/-! THE STATE: the levels' settings C (takes, then, last, value), the notes N (the row, how many), what is thrown T (kinds, numbers, height); what each method does to them -/
abbrev rC : Type := (Nat → Int32) × (Nat → Int32) × (Nat → Int32) × (Nat → Int32)
abbrev rN : Type := (Nat → Int32) × Nat
abbrev rT : Type := (Nat → Int32) × (Nat → Int32) × Nat
def lvF (ad : Nat → Nat) : Nat → Option Nat := fun j => if j < 6 then some (ad (2 + j)) else none
def rgL (C : rC) (k : Nat) : List Value := [.int (C.1 k), .int (C.2.1 k), .int (C.2.2.1 k), .int (C.2.2.2 k)]
/-- the rig's cells: itself, its row of levels, the six levels, the notes and their row, the thrown and its two rows; behind them any others -/
def rgW (ad : Nat → Nat) (cy : Nat → ClassId) (C : rC) (N : rN) (T : rT) (rn : Int32) (X : va_W) : va_W :=
  (ad 0, .inr (3, [.ref (ad 1), .ref (ad 8), .ref (ad 10), .int rn])) :: (ad 1, .inl (cy 0, 6, .inr (.inr (.inr (.inr (lvF ad)))))) ::
  (ad 2, .inr (0, rgL C 0)) :: (ad 3, .inr (0, rgL C 1)) :: (ad 4, .inr (0, rgL C 2)) :: (ad 5, .inr (0, rgL C 3)) :: (ad 6, .inr (0, rgL C 4)) :: (ad 7, .inr (0, rgL C 5)) ::
  (ad 8, .inr (1, [.ref (ad 9), .int (nI N.2)])) :: (ad 9, .inl (cy 1, 64, .inl N.1)) ::
  (ad 10, .inr (2, [.ref (ad 11), .ref (ad 12), .int (nI T.2.2)])) :: (ad 11, .inl (cy 2, 7, .inl T.1)) :: (ad 12, .inl (cy 3, 7, .inl T.2.1)) :: X
theorem rgW_lv {ad : Nat → Nat} {cy : Nat → ClassId} {C : rC} {N : rN} {T : rT} {rn : Int32} {X : va_W} {k : Nat} (hk : k < 6) : (rgW ad cy C N T rn X)[2 + k]? = some (ad (2 + k), .inr (0, rgL C k)) := by
  match k, hk with
  | 0, _ => rfl
  | 1, _ => rfl
  | 2, _ => rfl
  | 3, _ => rfl
  | 4, _ => rfl
  | 5, _ => rfl
theorem rgW_set {ad : Nat → Nat} {cy : Nat → ClassId} {C C' : rC} {N : rN} {T : rT} {rn : Int32} {X : va_W} {k : Nat} {fs : List Value} (hk : k < 6) (h0 : fs = rgL C' k) (h : ∀ j, j ≠ k → rgL C' j = rgL C j) : (rgW ad cy C N T rn X).set (2 + k) (ad (2 + k), .inr (0, fs)) = rgW ad cy C' N T rn X := by
  subst h0
  match k, hk with
  | 0, _ => simp only [rgW, List.set, h 1 (by decide), h 2 (by decide), h 3 (by decide), h 4 (by decide), h 5 (by decide)]
  | 1, _ => simp only [rgW, List.set, h 0 (by decide), h 2 (by decide), h 3 (by decide), h 4 (by decide), h 5 (by decide)]
  | 2, _ => simp only [rgW, List.set, h 0 (by decide), h 1 (by decide), h 3 (by decide), h 4 (by decide), h 5 (by decide)]
  | 3, _ => simp only [rgW, List.set, h 0 (by decide), h 1 (by decide), h 2 (by decide), h 4 (by decide), h 5 (by decide)]
  | 4, _ => simp only [rgW, List.set, h 0 (by decide), h 1 (by decide), h 2 (by decide), h 3 (by decide), h 5 (by decide)]
  | 5, _ => simp only [rgW, List.set, h 0 (by decide), h 1 (by decide), h 2 (by decide), h 3 (by decide), h 4 (by decide)]
theorem lvF_at {ad : Nat → Nat} {k : Nat} (hk : k < 6) : lvF ad k = some (ad (2 + k)) := by simp [lvF, hk]
-- what the rig does
/-- a note -/
def nt (N : rN) (x : Int32) : rN := (if N.2 < 64 then upd N.1 N.2 x else N.1, N.2 + 1)
def dpT (T : rT) : rT := (T.1, T.2.1, 0)
def wpT (T : rT) (k n : Int32) : rT := if T.2.2 < 7 then (upd T.1 T.2.2 k, upd T.2.1 T.2.2 n, T.2.2 + 1) else T
def tnT (T : rT) (k n : Int32) : rT := wpT (dpT T) k n
def kdT (T : rT) : Int32 := if 0 < T.2.2 then T.1 (T.2.2 - 1) else 0
def nbT (T : rT) : Int32 := if 0 < T.2.2 then T.2.1 (T.2.2 - 1) else 0
def csT (T : rT) : Int32 := if 0 < T.2.2 then nI (T.2.2 - 1) else 0
def lkT (T : rT) : Int32 := if 1 < T.2.2 then T.1 0 else 0
def lnT (T : rT) : Int32 := if 1 < T.2.2 then T.2.1 0 else 0
def tkB (t k : Int32) : Int32 := if k = 0 then 0 else if t &&& ((1 : Int32) <<< ((k - 1) &&& 31)) = 0 then 0 else 1
def isL (k : Int32) : Int32 := if k < 0 then 0 else if 6 ≤ k then 0 else 1
def dpN (v : Int32) : Int32 := 700 + (v - v / 100 * 100)
abbrev rS : Type := rN × rT
/-- the bottom -/
def rbF (b v : Int32) (S : rS) : rS × Int64 :=
  if b = 1 then ((S.1, tnT S.2 1 v), 0) else if b = 2 then ((S.1, tnT S.2 2 v), 0) else if b = 3 then ((S.1, tnT S.2 3 0), 0) else if b = 4 then ((S.1, tnT S.2 4 0), 0) else if b = 5 then ((S.1, tnT S.2 4 0), 0) else
  if b = 6 then (if v < 0 then ((S.1, tnT S.2 5 0), 0) else if 3 ≤ v then ((S.1, tnT S.2 5 0), 0) else (S, 7)) else
  if b = 7 then ((nt (nt (nt S.1 (dpN v)) (dpN v)) (dpN v), tnT S.2 1 v), 0) else (S, v.toInt64)
def thF (C : rC) (k : Nat) (g : Int32 → Int32 → rS → rS × Int64) (S : rS) : rS × Int64 :=
  let N := nt S.1 (100 * kdT S.2 + nI k)
  if C.2.1 k = 0 then ((N, dpT S.2), (C.2.2.2 k).toInt64) else if C.2.1 k = 1 then ((N, S.2), 0) else if C.2.1 k = 2 then ((N, wpT S.2 1 (C.2.2.2 k)), 0) else if C.2.1 k = 3 then ((N, wpT S.2 2 (C.2.2.2 k)), 0) else
  if C.2.1 k = 4 then ((N, tnT S.2 3 0), 0) else g 0 (C.2.2.2 k) (N, dpT S.2)
def laF (C : rC) (k : Nat) (a : Int64) (S : rS) : rS × Int64 :=
  let N := nt S.1 (600 + nI k)
  if C.2.2.1 k = 1 then ((N, dpT S.2), (C.2.2.2 k).toInt64) else if C.2.2.1 k = 2 then ((N, tnT S.2 1 (C.2.2.2 k)), 0) else if C.2.2.1 k = 3 then ((N, tnT S.2 3 0), 0) else ((N, S.2), a)
/-- what a level does, g being its way down -/
def dlF (C : rC) (k : Nat) (g : Int32 → Int32 → rS → rS × Int64) (b v : Int32) (S : rS) : rS × Int64 :=
  let S1 := g b v (nt S.1 (nI k), S.2)
  let S2 := if tkB (C.1 k) (kdT S1.1.2) = 0 then S1 else thF C k g S1.1
  laF C k S2.2 S2.1
/-- the way down -/
def gdF (C : rC) : Nat → Int32 → Int32 → rS → rS × Int64
  | 0, b, v, S => rbF b v S
  | k + 1, b, v, S => ((dlF C k (gdF C k) b v S).1, (dlF C k (gdF C k) b v S).2 + (C.2.2.2 (k + 1)).toInt64)
-- switches
theorem k_sw (x : Int32) (v : Int32) : x = v ∨ x ≠ v := Decidable.em _
theorem k_ti {x v : Int32} (h : x.toInt = v.toInt) : x = v := Int32.toInt_inj.mp h
theorem k_sw04 (x : Int32) : (x.toInt < 0 ∨ 4 < x.toInt) ∨ x = 0 ∨ x = 1 ∨ x = 2 ∨ x = 3 ∨ x = 4 := by
  by_cases h : x.toInt < 0 ∨ 4 < x.toInt
  · exact Or.inl h
  · have h2 : x.toInt = 0 ∨ x.toInt = 1 ∨ x.toInt = 2 ∨ x.toInt = 3 ∨ x.toInt = 4 := by omega
    rcases h2 with h | h | h | h | h
    · exact Or.inr (Or.inl (k_ti h))
    · exact Or.inr (Or.inr (Or.inl (k_ti h)))
    · exact Or.inr (Or.inr (Or.inr (Or.inl (k_ti h))))
    · exact Or.inr (Or.inr (Or.inr (Or.inr (Or.inl (k_ti h)))))
    · exact Or.inr (Or.inr (Or.inr (Or.inr (Or.inr (k_ti h)))))
theorem k_sw13 (x : Int32) : (x.toInt < 1 ∨ 3 < x.toInt) ∨ x = 1 ∨ x = 2 ∨ x = 3 := by
  by_cases h : x.toInt < 1 ∨ 3 < x.toInt
  · exact Or.inl h
  · have h2 : x.toInt = 1 ∨ x.toInt = 2 ∨ x.toInt = 3 := by omega
    rcases h2 with h | h | h
    · exact Or.inr (Or.inl (k_ti h))
    · exact Or.inr (Or.inr (Or.inl (k_ti h)))
    · exact Or.inr (Or.inr (Or.inr (k_ti h)))
theorem k_sw15 (x : Int32) : (x.toInt < 1 ∨ 5 < x.toInt) ∨ x = 1 ∨ x = 2 ∨ x = 3 ∨ x = 4 ∨ x = 5 := by
  by_cases h : x.toInt < 1 ∨ 5 < x.toInt
  · exact Or.inl h
  · have h2 : x.toInt = 1 ∨ x.toInt = 2 ∨ x.toInt = 3 ∨ x.toInt = 4 ∨ x.toInt = 5 := by omega
    rcases h2 with h | h | h | h | h
    · exact Or.inr (Or.inl (k_ti h))
    · exact Or.inr (Or.inr (Or.inl (k_ti h)))
    · exact Or.inr (Or.inr (Or.inr (Or.inl (k_ti h))))
    · exact Or.inr (Or.inr (Or.inr (Or.inr (Or.inl (k_ti h)))))
    · exact Or.inr (Or.inr (Or.inr (Or.inr (Or.inr (k_ti h)))))
theorem k_sw06 (x : Int32) : (x.toInt < 0 ∨ 6 < x.toInt) ∨ x = 0 ∨ x = 1 ∨ x = 2 ∨ x = 3 ∨ x = 4 ∨ x = 5 ∨ x = 6 := by
  by_cases h : x.toInt < 0 ∨ 6 < x.toInt
  · exact Or.inl h
  · have h2 : x.toInt = 0 ∨ x.toInt = 1 ∨ x.toInt = 2 ∨ x.toInt = 3 ∨ x.toInt = 4 ∨ x.toInt = 5 ∨ x.toInt = 6 := by omega
    rcases h2 with h | h | h | h | h | h | h
    · exact Or.inr (Or.inl (k_ti h))
    · exact Or.inr (Or.inr (Or.inl (k_ti h)))
    · exact Or.inr (Or.inr (Or.inr (Or.inl (k_ti h))))
    · exact Or.inr (Or.inr (Or.inr (Or.inr (Or.inl (k_ti h)))))
    · exact Or.inr (Or.inr (Or.inr (Or.inr (Or.inr (Or.inl (k_ti h))))))
    · exact Or.inr (Or.inr (Or.inr (Or.inr (Or.inr (Or.inr (Or.inl (k_ti h)))))))
    · exact Or.inr (Or.inr (Or.inr (Or.inr (Or.inr (Or.inr (Or.inr (k_ti h)))))))
theorem k_sw17 (x : Int32) : (x.toInt < 1 ∨ 7 < x.toInt) ∨ x = 1 ∨ x = 2 ∨ x = 3 ∨ x = 4 ∨ x = 5 ∨ x = 6 ∨ x = 7 := by
  by_cases h : x.toInt < 1 ∨ 7 < x.toInt
  · exact Or.inl h
  · have h2 : x.toInt = 1 ∨ x.toInt = 2 ∨ x.toInt = 3 ∨ x.toInt = 4 ∨ x.toInt = 5 ∨ x.toInt = 6 ∨ x.toInt = 7 := by omega
    rcases h2 with h | h | h | h | h | h | h
    · exact Or.inr (Or.inl (k_ti h))
    · exact Or.inr (Or.inr (Or.inl (k_ti h)))
    · exact Or.inr (Or.inr (Or.inr (Or.inl (k_ti h))))
    · exact Or.inr (Or.inr (Or.inr (Or.inr (Or.inl (k_ti h)))))
    · exact Or.inr (Or.inr (Or.inr (Or.inr (Or.inr (Or.inl (k_ti h))))))
    · exact Or.inr (Or.inr (Or.inr (Or.inr (Or.inr (Or.inr (Or.inl (k_ti h)))))))
    · exact Or.inr (Or.inr (Or.inr (Or.inr (Or.inr (Or.inr (Or.inr (k_ti h)))))))
/-- out of a switch's range: none of its values -/
theorem k_ne {x v : Int32} {lo hi : Int} (h : x.toInt < lo ∨ hi < x.toInt) (h2 : lo ≤ v.toInt ∧ v.toInt ≤ hi) : ¬ x = v := fun e => by subst e; omega
-- what stays small
theorem nt_2 (N : rN) (x : Int32) : (nt N x).2 = N.2 + 1 := rfl
theorem wpT_h {T : rT} {k n : Int32} (h : T.2.2 ≤ 7) : (wpT T k n).2.2 ≤ 7 := by
  unfold wpT
  split
  · exact Nat.succ_le_of_lt (by assumption)
  · exact h
theorem tnT_h (T : rT) (k n : Int32) : (tnT T k n).2.2 ≤ 7 := wpT_h (Nat.zero_le _)
theorem rbF_h (b v : Int32) (S : rS) (h : S.2.2.2 ≤ 7) : (rbF b v S).1.2.2.2 ≤ 7 ∧ (rbF b v S).1.1.2 ≤ S.1.2 + 3 := by
  unfold rbF
  repeat' split
  all_goals first | exact ⟨tnT_h _ _ _, Nat.le_add_right _ _⟩ | exact ⟨h, Nat.le_add_right _ _⟩ | exact ⟨tnT_h _ _ _, Nat.le_refl _⟩
/-- how many notes a way down makes at most -/
def cgF : Nat → Nat
  | 0 => 3
  | k + 1 => 3 + 2 * cgF k
theorem thF_h {C : rC} {k : Nat} {g : Int32 → Int32 → rS → rS × Int64} {n : Nat} (hg : ∀ b v S, S.2.2.2 ≤ 7 → (g b v S).1.2.2.2 ≤ 7 ∧ (g b v S).1.1.2 ≤ S.1.2 + n) (S : rS) (h : S.2.2.2 ≤ 7) : (thF C k g S).1.2.2.2 ≤ 7 ∧ (thF C k g S).1.1.2 ≤ S.1.2 + (1 + n) := by
  unfold thF
  dsimp only
  repeat' split
  all_goals first
    | exact ⟨tnT_h _ _ _, by rw [nt_2]; omega⟩
    | exact ⟨wpT_h h, by rw [nt_2]; omega⟩
    | exact ⟨h, by rw [nt_2]; omega⟩
    | exact ⟨Nat.zero_le _, by rw [nt_2]; omega⟩
    | exact ⟨(hg _ _ _ (Nat.zero_le _)).1, Nat.le_trans (hg _ _ _ (Nat.zero_le _)).2 (by rw [nt_2]; omega)⟩
theorem laF_h (C : rC) (k : Nat) (a : Int64) (S : rS) (h : S.2.2.2 ≤ 7) : (laF C k a S).1.2.2.2 ≤ 7 ∧ (laF C k a S).1.1.2 = S.1.2 + 1 := by
  unfold laF
  dsimp only
  repeat' split
  all_goals first
    | exact ⟨tnT_h _ _ _, rfl⟩
    | exact ⟨h, rfl⟩
    | exact ⟨Nat.zero_le _, rfl⟩
theorem dlF_h {C : rC} {k : Nat} {g : Int32 → Int32 → rS → rS × Int64} {n : Nat} (hg : ∀ b v S, S.2.2.2 ≤ 7 → (g b v S).1.2.2.2 ≤ 7 ∧ (g b v S).1.1.2 ≤ S.1.2 + n) (b v : Int32) (S : rS) (h : S.2.2.2 ≤ 7) : (dlF C k g b v S).1.2.2.2 ≤ 7 ∧ (dlF C k g b v S).1.1.2 ≤ S.1.2 + (3 + 2 * n) := by
  obtain ⟨a1, a2⟩ := hg b v (nt S.1 (nI k), S.2) h
  rw [nt_2] at a2
  unfold dlF
  dsimp only
  generalize g b v (nt S.1 (nI k), S.2) = S1 at a1 a2 ⊢
  split
  · obtain ⟨b1, b2⟩ := laF_h C k S1.2 S1.1 a1
    exact ⟨b1, by omega⟩
  · obtain ⟨c1, c2⟩ := thF_h (C := C) (k := k) hg S1.1 a1
    obtain ⟨b1, b2⟩ := laF_h C k (thF C k g S1.1).2 (thF C k g S1.1).1 c1
    exact ⟨b1, by omega⟩
theorem gdF_h (C : rC) : ∀ (k : Nat) (b v : Int32) (S : rS), S.2.2.2 ≤ 7 → (gdF C k b v S).1.2.2.2 ≤ 7 ∧ (gdF C k b v S).1.1.2 ≤ S.1.2 + cgF k := by
  intro k
  induction k with
  | zero => intro b v S h; exact rbF_h b v S h
  | succ k ih => intro b v S h; exact dlF_h ih b v S h
