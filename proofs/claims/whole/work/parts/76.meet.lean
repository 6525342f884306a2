def fMt (X Y : Nat → Int32) : Nat → Nat → Int32
  | 0, _ => -9
  | n + 1, i => if ¬ X i = -5 ∧ X i = Y i then X i else fMt X Y n (i + 1)
theorem fMt_end {X Y : Nat → Int32} {B : Nat} : ∀ (n a : Nat), (∀ i, a ≤ i → i < B → X i = -5) → a + n ≤ B → fMt X Y n a = -9
  | 0, _, _, _ => rfl
  | n + 1, a, h, hb => by
    unfold fMt
    rw [if_neg (fun q => q.1 (h a (Nat.le_refl _) (by omega)))]
    exact fMt_end n (a + 1) (fun i hi hi2 => h i (by omega) hi2) (by omega)
theorem fMt_cut {X Y : Nat → Int32} {B b : Nat} (h : ∀ i, b ≤ i → i < B → X i = -5) : ∀ (n m a : Nat), a + n = b → n ≤ m → a + m ≤ B → fMt X Y m a = fMt X Y n a
  | 0, m, a, e, _, hb => by
    show fMt X Y m a = -9
    exact fMt_end m a (fun i hi hi2 => h i (by omega) hi2) hb
  | n + 1, 0, a, e, hm, _ => by omega
  | n + 1, m + 1, a, e, hm, hb => by
    unfold fMt
    rw [fMt_cut h n m (a + 1) (by omega) (by omega) (by omega)]
def rS (g : Nat → Nat) (lo hi : Nat) : Nat → Nat
  | 0 => 0
  | n + 1 => rS g lo hi n + if lo ≤ n ∧ n < hi then g n else 0
theorem rS_lo (g : Nat → Nat) {lo hi : Nat} (h : lo < hi) : ∀ n : Nat, rS g lo hi n = (if lo < n then g lo else 0) + rS g (lo + 1) hi n
  | 0 => by simp [rS]
  | n + 1 => by
    unfold rS
    rw [rS_lo g h n]
    by_cases c : lo = n
    · subst c
      rw [if_neg (by omega), if_pos ⟨Nat.le_refl _, h⟩, if_pos (by omega), if_neg (by omega)]
      omega
    · by_cases c1 : lo < n
      · by_cases c2 : n < hi
        · rw [if_pos c1, if_pos ⟨by omega, c2⟩, if_pos (by omega), if_pos ⟨by omega, c2⟩]
          omega
        · rw [if_pos c1, if_neg (fun q => c2 q.2), if_pos (by omega), if_neg (fun q => c2 q.2)]
          omega
      · rw [if_neg c1, if_neg (by omega), if_neg (by omega), if_neg (by omega)]
        omega
theorem rS_hi (g : Nat → Nat) {lo hi : Nat} (h : lo ≤ hi) : ∀ n : Nat, rS g lo (hi + 1) n = (if hi < n then g hi else 0) + rS g lo hi n
  | 0 => by simp [rS]
  | n + 1 => by
    unfold rS
    rw [rS_hi g h n]
    by_cases c : hi = n
    · subst c
      rw [if_neg (by omega), if_pos ⟨h, by omega⟩, if_pos (by omega), if_neg (by omega)]
      omega
    · by_cases c1 : hi < n
      · rw [if_pos c1, if_neg (by omega), if_pos (by omega), if_neg (by omega)]
        omega
      · by_cases c2 : lo ≤ n
        · rw [if_neg c1, if_pos ⟨c2, by omega⟩, if_neg (by omega), if_pos ⟨c2, by omega⟩]
          omega
        · rw [if_neg c1, if_neg (fun q => c2 q.1), if_neg (by omega), if_neg (fun q => c2 q.1)]
          omega
theorem thr_bit : ∀ D h j : Fin 9, decide ((fThr D.val h.val >>> (nI j.val &&& 31)) &&& 1 = 1) = (if D.val ≤ h.val then decide (D.val ≤ j.val ∧ j.val < h.val) else decide (h.val + 1 ≤ j.val ∧ j.val < D.val + 1)) := by decide +kernel
def rSet (g : Nat → Nat) (h D n : Nat) : Nat := if D ≤ h then rS g D h n else rS g (h + 1) (D + 1) n
theorem fMins_rS {hall : Nat → Int32} {g : Nat → Nat} {nh h D : Nat} (hb : nh ≤ 9) (hg : ∀ j, j < nh → hall j = nI (g j)) (hh : h < 9) (hD : D < 9) : ∀ n : Nat, n ≤ nh → fMins hall (fThr D h) n = nI (rSet g h D n)
  | 0, _ => by
    unfold rSet rS
    rw [ite_self]
    rfl
  | n + 1, hn => by
    have ih := fMins_rS hb hg hh hD n (by omega)
    have e := thr_bit ⟨D, hD⟩ ⟨h, hh⟩ ⟨n, by omega⟩
    have e : decide ((fThr D h >>> (nI n &&& 31)) &&& 1 = 1) = (if D ≤ h then decide (D ≤ n ∧ n < h) else decide (h + 1 ≤ n ∧ n < D + 1)) := e
    unfold fMins
    have rs : ∀ lo hi, rS g lo hi (n + 1) = rS g lo hi n + if lo ≤ n ∧ n < hi then g n else 0 := fun _ _ => rfl
    rw [ih, hg n (by omega)]
    unfold rSet
    by_cases c : D ≤ h
    · simp only [if_pos c, rs] at e ⊢
      by_cases c1 : D ≤ n ∧ n < h
      · rw [decide_eq_true c1] at e
        rw [if_pos (of_decide_eq_true e), if_pos c1, nI_add]
      · rw [decide_eq_false c1] at e
        simp only [if_neg (of_decide_eq_false e), if_neg c1, Nat.add_zero]
    · simp only [if_neg c, rs] at e ⊢
      by_cases c1 : h + 1 ≤ n ∧ n < D + 1
      · rw [decide_eq_true c1] at e
        rw [if_pos (of_decide_eq_true e), if_pos c1, nI_add]
      · rw [decide_eq_false c1] at e
        simp only [if_neg (of_decide_eq_false e), if_neg c1, Nat.add_zero]
theorem fOutF_end {hall : Nat → Int32} {g : Nat → Nat} {nh h D : Nat} (hb : nh ≤ 9) (hg : ∀ j, j < nh → hall j = nI (g j)) (hg9 : ∀ j, j < nh → g j ≤ 9) (hh : h < nh) (hD : D < nh) : ∀ (n i r : Nat), 1 ≤ i → i + n = nst h D + 1 → r < 2 ^ 31 → (if D ≤ h then rS g D (h + 1 - i) nh else rS g (h + i) (D + 1) nh) ≤ r → fOutF hall h D n i (nI r) = -5
  | 0, _, _, _, _, _, _ => rfl
  | n + 1, i, r, h1, hi, hr, hw => by
    have hl := hpt_lt (i := i) hh hD (by omega)
    have ge := hg _ hl
    have g9 := hg9 _ hl
    have hs : g (hpt h D i) + (if D ≤ h then rS g D (h + 1 - (i + 1)) nh else rS g (h + (i + 1)) (D + 1) nh) ≤ r := by
      unfold nst at hi
      unfold hpt at hl ⊢
      by_cases c : D ≤ h
      · simp only [if_pos c] at hi hw hl ⊢
        obtain ⟨m, hm⟩ : ∃ m, h - i = m := ⟨_, rfl⟩
        rw [show h + 1 - i = m + 1 by omega, rS_hi g (by omega), if_pos (by omega)] at hw
        rw [hm, show h + 1 - (i + 1) = m by omega]
        exact hw
      · simp only [if_neg c] at hi hw hl ⊢
        rw [rS_lo g (by omega), if_pos (by omega)] at hw
        exact hw
    unfold fOutF
    rw [ge, if_neg (nI_nlt (by omega) hr), pk_sub (by omega)]
    exact fOutF_end hb hg hg9 hh hD n (i + 1) (r - g (hpt h D i)) (by omega) (by omega) (by omega) (by omega)
theorem rS_b (g : Nat → Nat) (lo hi : Nat) : ∀ n : Nat, (∀ j, j < n → g j ≤ 9) → rS g lo hi n ≤ 9 * n
  | 0, _ => Nat.le_refl _
  | n + 1, h => by
    have := rS_b g lo hi n (fun j hj => h j (by omega))
    have := h n (by omega)
    unfold rS
    split <;> omega
def fMeet (hall : Nat → Int32) (nh np : Nat) (nw : Nat → Int32) (p a q b : Int32) : Int32 := if isN np p = true ∧ isN np q = true ∧ ¬ p = q ∧ isN 61 a = true ∧ isN 61 b = true then fMt (fun m => fOutP hall (nw (6 + p.toNatClampNeg)).toNatClampNeg (fDr hall nh (nw (6 + p.toNatClampNeg)).toNatClampNeg (nw 21)) (nI m - a)) (fun m => fInP hall (nw (6 + q.toNatClampNeg)).toNatClampNeg (fDr hall nh (nw (6 + q.toNatClampNeg)).toNatClampNeg (nw 21)) (nI m - b)) 160 0 else -1
theorem e9 (hall : Nat → Int32) {nh : Nat} (h : ∀ j, j < nh → ∃ c, c ≤ 9 ∧ hall j = nI c) : ∃ g : Nat → Nat, (∀ j, j < nh → hall j = nI (g j)) ∧ ∀ j, j < nh → g j ≤ 9 := by
  refine ⟨fun j => (hall j).toNatClampNeg, fun j hj => ?_, fun j hj => ?_⟩
  · obtain ⟨c, hc, e⟩ := h j hj
    show _ = nI (hall j).toNatClampNeg
    rw [e, nI_clamp (by omega)]
  · obtain ⟨c, hc, e⟩ := h j hj
    show (hall j).toNatClampNeg ≤ 9
    rw [e, nI_clamp (by omega)]
    exact hc
