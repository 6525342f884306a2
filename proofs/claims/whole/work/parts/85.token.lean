/-! tokens of a text T of n bytes: numbers alone -/
def rnF (P : Nat → Bool) (T : Nat → Nat) (n : Nat) : Nat → Nat → Nat
  | 0, a => a
  | f + 1, a => if a < n ∧ P (T a) = true then rnF P T n f (a + 1) else a
/-- where a run of such bytes ends -/
def rn (P : Nat → Bool) (T : Nat → Nat) (n a : Nat) : Nat := rnF P T n (n - a) a
theorem rn_go {P : Nat → Bool} {T : Nat → Nat} {n a : Nat} (h : a < n) (hp : P (T a) = true) : rn P T n a = rn P T n (a + 1) := by
  unfold rn
  obtain ⟨k, hk⟩ : ∃ k, n - a = k + 1 := ⟨n - a - 1, by omega⟩
  rw [hk, show n - (a + 1) = k by omega]
  show (if a < n ∧ P (T a) = true then rnF P T n k (a + 1) else a) = _
  rw [if_pos ⟨h, hp⟩]
theorem rn_stop {P : Nat → Bool} {T : Nat → Nat} {n a : Nat} (h : ¬ (a < n ∧ P (T a) = true)) : rn P T n a = a := by
  unfold rn
  cases n - a with
  | zero => rfl
  | succ k =>
    show (if a < n ∧ P (T a) = true then rnF P T n k (a + 1) else a) = a
    rw [if_neg h]
theorem rnF_ge (P : Nat → Bool) (T : Nat → Nat) (n : Nat) : ∀ f a : Nat, a ≤ rnF P T n f a
  | 0, a => Nat.le_refl _
  | f + 1, a => by
    show a ≤ if a < n ∧ P (T a) = true then rnF P T n f (a + 1) else a
    have := rnF_ge P T n f (a + 1)
    split <;> omega
theorem rnF_le (P : Nat → Bool) (T : Nat → Nat) (n : Nat) : ∀ f a : Nat, a ≤ n → rnF P T n f a ≤ n
  | 0, a, h => h
  | f + 1, a, h => by
    show (if a < n ∧ P (T a) = true then rnF P T n f (a + 1) else a) ≤ n
    by_cases c : a < n ∧ P (T a) = true
    · rw [if_pos c]; exact rnF_le P T n f (a + 1) (by omega)
    · rw [if_neg c]; exact h
theorem rn_ge (P : Nat → Bool) (T : Nat → Nat) (n a : Nat) : a ≤ rn P T n a := rnF_ge P T n _ a
theorem rn_le (P : Nat → Bool) (T : Nat → Nat) {n a : Nat} (h : a ≤ n) : rn P T n a ≤ n := rnF_le P T n _ a h
def isB (c : Nat) : Bool := decide (c = 32)
def isL (c : Nat) : Bool := decide (97 ≤ c ∧ c ≤ 122)
def isG (c : Nat) : Bool := decide (48 ≤ c ∧ c ≤ 57)
/-- a number's value, as the model holds it down, and as the class does -/
def mvN (T : Nat → Nat) (s : Nat) : Nat → Nat
  | 0 => 0
  | k + 1 => if 99 < mvN T s k then mvN T s k else 10 * mvN T s k + (T (s + k) - 48)
def cvN (T : Nat → Nat) (s : Nat) : Nat → Nat
  | 0 => 0
  | k + 1 => min 100 (cvN T s k * 10 + (T (s + k) - 48))
theorem cvN_mvN (T : Nat → Nat) (s : Nat) : ∀ k : Nat, cvN T s k = min 100 (mvN T s k)
  | 0 => rfl
  | k + 1 => by
    have ih := cvN_mvN T s k
    show min 100 (cvN T s k * 10 + (T (s + k) - 48)) = min 100 (if 99 < mvN T s k then mvN T s k else 10 * mvN T s k + (T (s + k) - 48))
    by_cases c : 99 < mvN T s k
    · rw [if_pos c]; omega
    · rw [if_neg c]; omega
theorem mvN_b {T : Nat → Nat} {s : Nat} : ∀ k : Nat, (∀ j, j < k → T (s + j) ≤ 57) → mvN T s k ≤ 999
  | 0, _ => Nat.zero_le _
  | k + 1, h => by
    have ih := mvN_b k (fun j hj => h j (by omega))
    have := h k (by omega)
    show (if 99 < mvN T s k then mvN T s k else 10 * mvN T s k + (T (s + k) - 48)) ≤ 999
    by_cases c : 99 < mvN T s k
    · rw [if_pos c]; exact ih
    · rw [if_neg c]; omega
/-- the token that begins at s: its kind (0 end, 1 a letter, 2 a number, 3 a stop, 4 unfit), value, what is behind it -/
def tkK (T : Nat → Nat) (n s : Nat) : Nat := if s < n then (if isL (T s) = true then (if rn isL T n (s + 1) = s + 1 then 1 else 4) else if isG (T s) = true then (if 99 < mvN T s (rn isG T n s - s) ∨ (T s = 48 ∧ 1 < rn isG T n s - s) then 4 else 2) else if T s = 59 then 3 else 4) else 0
def tkV (T : Nat → Nat) (n s : Nat) : Nat := if isL (T s) = true then T s else mvN T s (rn isG T n s - s)
def tkN (T : Nat → Nat) (n s : Nat) : Nat := if s < n then (if isL (T s) = true then rn isL T n (s + 1) else if isG (T s) = true then rn isG T n s else s + 1) else s
def tkS (T : Nat → Nat) (n a : Nat) : Nat := rn isB T n a
theorem tkS_le {T : Nat → Nat} {n a : Nat} (h : a ≤ n) : tkS T n a ≤ n := rn_le _ _ h
theorem tkS_ge {T : Nat → Nat} {n a : Nat} : a ≤ tkS T n a := rn_ge _ _ _ _
theorem tkN_le {T : Nat → Nat} {n s : Nat} (h : s ≤ n) : tkN T n s ≤ n := by
  unfold tkN
  by_cases c : s < n
  · rw [if_pos c]
    by_cases c1 : isL (T s) = true
    · rw [if_pos c1]; exact rn_le _ _ (by omega)
    · rw [if_neg c1]
      by_cases c2 : isG (T s) = true
      · rw [if_pos c2]; exact rn_le _ _ h
      · rw [if_neg c2]; omega
  · rw [if_neg c]; exact h
theorem tkN_gt {T : Nat → Nat} {n s : Nat} (h : s < n) : s < tkN T n s := by
  unfold tkN
  rw [if_pos h]
  by_cases c1 : isL (T s) = true
  · rw [if_pos c1]
    have := rn_ge isL T n (s + 1)
    omega
  · rw [if_neg c1]
    by_cases c2 : isG (T s) = true
    · rw [if_pos c2, rn_go h c2]
      have := rn_ge isG T n (s + 1)
      omega
    · rw [if_neg c2]; omega
theorem tkK_0 {T : Nat → Nat} {n s : Nat} : tkK T n s = 0 ↔ ¬ s < n := by
  unfold tkK
  by_cases c : s < n
  · rw [if_pos c]
    constructor
    · intro h
      exfalso
      revert h
      repeat' split
      all_goals decide
    · intro h; exact absurd c h
  · rw [if_neg c]
    exact ⟨fun _ => c, fun _ => rfl⟩
/-- what the class has of a token -/
def cTok (K V : Nat) (t v : Int32) : Prop := (K = 0 ∧ t = 0) ∨ (K = 1 ∧ t = 1 ∧ v = nI V) ∨ (K = 2 ∧ t = 2 ∧ v = nI V) ∨ (K = 3 ∧ t = 3) ∨ (K = 4 ∧ (t = 4 ∨ (t = 1 ∧ v = 0)))
/-- what the model has of a token -/
def mTok (K V : Nat) (t v : Int32) : Prop := (K = 0 ∧ t = 3) ∨ (K = 1 ∧ t = nI V ∧ 97 ≤ V ∧ V ≤ 122) ∨ (K = 2 ∧ t = 1 ∧ v = nI V) ∨ (K = 3 ∧ t = 2) ∨ (K = 4 ∧ t = 4)
