/-- the heap at the law's start: the script alone -/
def zH0 (L : Nat) (xs : Nat → Int32) : zHp := fun k => if k = 0 then .inl (0, L, .inl xs) else zvoid
theorem law_pure {L : Nat} (hL : L ≤ 320) (xs : Nat → Int32) : ∃ (M' : zHp) (N' S' : Nat), N' ≤ 600000 ∧ S' ≤ 7302250 ∧ zGo 100 mW_law 0 ([.ref 0, .retAddr 0, .retAddr 0, .retAddr 0], [], zH0 L xs, 0, 0) (some (.int 1), M', N', S') := by
  sorry
