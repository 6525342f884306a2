/-- the fewest houses to open, among the first sets -/
def fOp (st : Int32 → Int32) (s : Nat) : Nat → Int32
  | 0 => nI s
  | i + 1 => if nI i &&& (nI s ^^^ (-1)) = 0 ∧ fCnt (nI i) 9 < fCnt (fOp st s i) 9 ∧ st (nI s &&& (nI i ^^^ (-1))) = 0 then nI i else fOp st s i
theorem fOp_ok (st : Int32 → Int32) (s : Nat) : ∀ i, fOp st s i = nI s ∨ ∃ k, k < i ∧ fOp st s i = nI k
  | 0 => Or.inl rfl
  | i + 1 => by
    unfold fOp
    split
    · exact Or.inr ⟨i, by omega, rfl⟩
    · rcases fOp_ok st s i with h | ⟨k, h1, h2⟩
      · exact Or.inl h
      · exact Or.inr ⟨k, by omega, h2⟩
/-- as many and lower: never, as the sets run upwards -/
theorem fOp_no {st : Int32 → Int32} {s i : Nat} (hs : s < 512) (hi : i < s) (h : nI i &&& (nI s ^^^ (-1)) = 0) (he : fCnt (nI i) 9 = fCnt (fOp st s i) 9) : fOp st s i ≤ nI i := by
  rcases fOp_ok st s i with e | ⟨k, h1, h2⟩
  · rw [e, cnt_eq (by omega), cnt_eq hs] at he
    have := cnt_le 9 i
    have := cnt_le 9 s
    have he := (nI_eq (by omega) (by omega)).mp he
    have := (cnt_sub 9 i s (by omega) (by omega) (sub_and (by omega) hs h)).2 he
    omega
  · rw [h2]
    exact nI_le (by omega) (by omega)
