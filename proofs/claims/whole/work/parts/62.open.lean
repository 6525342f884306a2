/-- ones of a number, as a plain number -/
def cntN : Nat → Nat → Nat
  | 0, _ => 0
  | n + 1, x => x % 2 + cntN n (x / 2)
theorem cnt_eq {s : Nat} (h : s < 512) : fCnt (nI s) 9 = nI (cntN 9 s) := by
  have key : ∀ s : Fin 512, fCnt (nI s) 9 = nI (cntN 9 s) := by decide +kernel
  exact key ⟨s, h⟩
theorem cnt_le : ∀ n x : Nat, cntN n x ≤ n
  | 0, _ => Nat.le_refl _
  | n + 1, x => by
    have := cnt_le n (x / 2)
    unfold cntN
    omega
theorem cnt_sub : ∀ n x y : Nat, x < 2 ^ n → y < 2 ^ n → x &&& y = x → cntN n x ≤ cntN n y ∧ (cntN n x = cntN n y → x = y)
  | 0, x, y, hx, hy, _ => ⟨Nat.le_refl _, fun _ => by simp at hx hy; omega⟩
  | n + 1, x, y, hx, hy, h => by
    have h2 : (x / 2) &&& (y / 2) = x / 2 := by rw [← Nat.and_div_two, h]
    have h1 : x % 2 ≤ y % 2 := by
      rcases Nat.mod_two_eq_zero_or_one x with e | e
      · omega
      · have t : (x &&& y).testBit 0 = x.testBit 0 := by rw [h]
        simp [Nat.testBit_and, Nat.testBit_zero, e] at t
        omega
    obtain ⟨i1, i2⟩ := cnt_sub n (x / 2) (y / 2) (by omega) (by omega) h2
    unfold cntN
    refine ⟨by omega, fun e => ?_⟩
    have : x / 2 = y / 2 := i2 (by omega)
    omega
