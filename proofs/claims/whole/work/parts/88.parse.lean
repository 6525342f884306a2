/-! the text read: what is told so far is a row D of numbers (0 houses, 1 people, 2 tax, 3 warm, 4 and 5 whether these are told, 10 .. halls, 20 .. homes, 30 .. errands, 40 .. patience) -/
def updN (D : Nat → Nat) (k v : Nat) : Nat → Nat := fun j => if j = k then v else D j
theorem updN_s (D : Nat → Nat) (k v : Nat) : updN D k v k = v := if_pos rfl
theorem updN_n (D : Nat → Nat) {k j : Nat} (v : Nat) (h : ¬ j = k) : updN D k v j = D j := if_neg h
def pEnd (T : Nat → Nat) (n a : Nat) (D : Nat → Nat) : Nat ⊕ (Nat × (Nat → Nat)) := if tkK T n (tkS T n a) = 3 then .inr (tkN T n (tkS T n a), D) else .inl (tkS T n a)
def pNum (T : Nat → Nat) (n a lo hi : Nat) (k : Nat → Nat → Nat ⊕ (Nat × (Nat → Nat))) : Nat ⊕ (Nat × (Nat → Nat)) := if tkK T n (tkS T n a) = 2 ∧ lo ≤ tkV T n (tkS T n a) ∧ tkV T n (tkS T n a) < hi then k (tkV T n (tkS T n a)) (tkN T n (tkS T n a)) else .inl (tkS T n a)
def pHouse (T : Nat → Nat) (n s : Nat) (D : Nat → Nat) : Nat ⊕ (Nat × (Nat → Nat)) := if D 0 < 9 then pNum T n (tkN T n s) 0 10 (fun v b => pEnd T n b (updN (updN D (10 + D 0) v) 0 (D 0 + 1))) else .inl s
def pPers (T : Nat → Nat) (n s : Nat) (D : Nat → Nat) : Nat ⊕ (Nat × (Nat → Nat)) := if D 1 < 6 then pNum T n (tkN T n s) 0 (D 0) (fun v1 b1 => pNum T n b1 0 10 (fun v2 b2 => pNum T n b2 0 51 (fun v3 b3 => pEnd T n b3 (updN (updN (updN (updN D (20 + D 1) v1) (30 + D 1) v2) (40 + D 1) v3) 1 (D 1 + 1))))) else .inl s
def pTax (T : Nat → Nat) (n s : Nat) (D : Nat → Nat) : Nat ⊕ (Nat × (Nat → Nat)) := if D 4 = 0 then pNum T n (tkN T n s) 0 100 (fun v b => pEnd T n b (updN (updN D 2 v) 4 1)) else .inl s
def pWarm (T : Nat → Nat) (n s : Nat) (D : Nat → Nat) : Nat ⊕ (Nat × (Nat → Nat)) := if D 5 = 0 then pNum T n (tkN T n s) 1 61 (fun v b => pEnd T n b (updN (updN D 3 v) 5 1)) else .inl s
def pItem (T : Nat → Nat) (n s : Nat) (D : Nat → Nat) : Nat ⊕ (Nat × (Nat → Nat)) := if tkK T n s = 1 then (if tkV T n s = 104 then pHouse T n s D else if tkV T n s = 112 then pPers T n s D else if tkV T n s = 116 then pTax T n s D else if tkV T n s = 119 then pWarm T n s D else .inl s) else .inl s
def pAll (T : Nat → Nat) (n : Nat) : Nat → Nat → Nat → (Nat → Nat) → Nat ⊕ (Nat × (Nat → Nat))
  | 0, _, _, _ => .inl 0
  | f + 1, a, i, D => if tkK T n (tkS T n a) = 0 then .inr (i, D) else match pItem T n (tkS T n a) D with
    | .inl p => .inl p
    | .inr (a', D') => pAll T n f a' (i + 1) D'
/-- what a row of what is told keeps to -/
def wfD (D : Nat → Nat) : Prop := D 0 ≤ 9 ∧ D 1 ≤ 6 ∧ D 2 ≤ 99 ∧ D 3 ≤ 60 ∧ D 4 ≤ 1 ∧ D 5 ≤ 1 ∧ (∀ j, j < D 0 → D (10 + j) ≤ 9) ∧ (∀ j, j < D 1 → D (20 + j) < D 0) ∧ (∀ j, j < D 1 → D (30 + j) ≤ 9) ∧ ∀ j, j < D 1 → D (40 + j) ≤ 50
/-- a reading that ends at p, or goes on from a place behind a -/
def pOk (n a : Nat) : Nat ⊕ (Nat × (Nat → Nat)) → Prop
  | .inl p => p ≤ n
  | .inr (b, D) => a ≤ b ∧ b ≤ n ∧ wfD D
theorem pOk_le {n a b : Nat} {r : Nat ⊕ (Nat × (Nat → Nat))} (h : a ≤ b) (hr : pOk n b r) : pOk n a r := by
  cases r with
  | inl p => exact hr
  | inr q => exact ⟨Nat.le_trans h hr.1, hr.2⟩
theorem pEnd_ok {T : Nat → Nat} {n a : Nat} {D : Nat → Nat} (ha : a ≤ n) (h : wfD D) : pOk n a (pEnd T n a D) := by
  have h1 := tkS_le (T := T) ha
  have h2 := tkS_ge (T := T) (n := n) (a := a)
  have h3 := tkN_le (T := T) h1
  unfold pEnd
  by_cases c : tkK T n (tkS T n a) = 3
  · rw [if_pos c]
    have c0 : tkS T n a < n := by
      refine Classical.byContradiction (fun q => ?_)
      have := (tkK_0 (T := T)).mpr q
      omega
    have := tkN_gt (T := T) c0
    exact ⟨by omega, h3, h⟩
  · rw [if_neg c]
    exact h1
theorem pNum_ok {T : Nat → Nat} {n a lo hi : Nat} {k : Nat → Nat → Nat ⊕ (Nat × (Nat → Nat))} (ha : a ≤ n) (h : ∀ v b, lo ≤ v → v < hi → b ≤ n → pOk n b (k v b)) : pOk n a (pNum T n a lo hi k) := by
  have h1 := tkS_le (T := T) ha
  have h2 := tkS_ge (T := T) (n := n) (a := a)
  have h3 := tkN_le (T := T) h1
  unfold pNum
  by_cases c : tkK T n (tkS T n a) = 2 ∧ lo ≤ tkV T n (tkS T n a) ∧ tkV T n (tkS T n a) < hi
  · rw [if_pos c]
    have c0 : tkS T n a < n := by
      refine Classical.byContradiction (fun q => ?_)
      have := (tkK_0 (T := T)).mpr q
      omega
    have := tkN_gt (T := T) c0
    exact pOk_le (by omega) (h _ _ c.2.1 c.2.2 h3)
  · rw [if_neg c]
    exact h1
theorem pItem_ok {T : Nat → Nat} {n s : Nat} {D : Nat → Nat} (hs : s ≤ n) (h : wfD D) : pOk n (tkN T n s) (pItem T n s D) := by
  have hN := tkN_le (T := T) hs
  obtain ⟨h0, h1, h2, h3, h4, h5, h6, h7, h8, h9⟩ := h
  unfold pItem
  by_cases c : tkK T n s = 1
  · rw [if_pos c]
    by_cases c1 : tkV T n s = 104
    · rw [if_pos c1]
      unfold pHouse
      by_cases c2 : D 0 < 9
      · rw [if_pos c2]
        refine pNum_ok hN (fun v b _ hv hb => pEnd_ok hb ?_)
        have e : ∀ k, ¬ k = 0 → ¬ k = 10 + D 0 → updN (updN D (10 + D 0) v) 0 (D 0 + 1) k = D k := fun k a b => by rw [updN_n _ _ a, updN_n _ _ b]
        refine ⟨by rw [updN_s]; omega, by rw [e 1 (by omega) (by omega)]; exact h1, by rw [e 2 (by omega) (by omega)]; exact h2, by rw [e 3 (by omega) (by omega)]; exact h3, by rw [e 4 (by omega) (by omega)]; exact h4, by rw [e 5 (by omega) (by omega)]; exact h5, fun j hj => ?_, fun j hj => ?_, fun j hj => ?_, fun j hj => ?_⟩
        · rw [updN_s] at hj
          rw [updN_n _ _ (by omega)]
          by_cases cj : j = D 0
          · rw [cj, updN_s]; omega
          · rw [updN_n _ _ (by omega)]; exact h6 j (by omega)
        · rw [e 1 (by omega) (by omega)] at hj
          rw [e (20 + j) (by omega) (by omega), updN_s]
          have := h7 j hj
          omega
        · rw [e 1 (by omega) (by omega)] at hj
          rw [e (30 + j) (by omega) (by omega)]; exact h8 j hj
        · rw [e 1 (by omega) (by omega)] at hj
          rw [e (40 + j) (by omega) (by omega)]; exact h9 j hj
      · rw [if_neg c2]
        exact hs
    · rw [if_neg c1]
      by_cases c2 : tkV T n s = 112
      · rw [if_pos c2]
        unfold pPers
        by_cases c3 : D 1 < 6
        · rw [if_pos c3]
          refine pNum_ok hN (fun v1 b1 _ hv1 hb1 => pNum_ok hb1 (fun v2 b2 _ hv2 hb2 => pNum_ok hb2 (fun v3 b3 _ hv3 hb3 => pEnd_ok hb3 ?_)))
          have e : ∀ k, ¬ k = 1 → ¬ k = 20 + D 1 → ¬ k = 30 + D 1 → ¬ k = 40 + D 1 → updN (updN (updN (updN D (20 + D 1) v1) (30 + D 1) v2) (40 + D 1) v3) 1 (D 1 + 1) k = D k := fun k a b c d => by rw [updN_n _ _ a, updN_n _ _ d, updN_n _ _ c, updN_n _ _ b]
          refine ⟨by rw [e 0 (by omega) (by omega) (by omega) (by omega)]; exact h0, by rw [updN_s]; omega, by rw [e 2 (by omega) (by omega) (by omega) (by omega)]; exact h2, by rw [e 3 (by omega) (by omega) (by omega) (by omega)]; exact h3, by rw [e 4 (by omega) (by omega) (by omega) (by omega)]; exact h4, by rw [e 5 (by omega) (by omega) (by omega) (by omega)]; exact h5, fun j hj => ?_, fun j hj => ?_, fun j hj => ?_, fun j hj => ?_⟩
          · rw [e 0 (by omega) (by omega) (by omega) (by omega)] at hj
            rw [e (10 + j) (by omega) (by omega) (by omega) (by omega)]; exact h6 j hj
          · rw [updN_s] at hj
            rw [e 0 (by omega) (by omega) (by omega) (by omega)]
            by_cases cj : j = D 1
            · rw [cj, updN_n _ _ (by omega), updN_n _ _ (by omega), updN_n _ _ (by omega), updN_s]; exact hv1
            · rw [e (20 + j) (by omega) (by omega) (by omega) (by omega)]; exact h7 j (by omega)
          · rw [updN_s] at hj
            by_cases cj : j = D 1
            · rw [cj, updN_n _ _ (by omega), updN_n _ _ (by omega), updN_s]; omega
            · rw [e (30 + j) (by omega) (by omega) (by omega) (by omega)]; exact h8 j (by omega)
          · rw [updN_s] at hj
            by_cases cj : j = D 1
            · rw [cj, updN_n _ _ (by omega), updN_s]; omega
            · rw [e (40 + j) (by omega) (by omega) (by omega) (by omega)]; exact h9 j (by omega)
        · rw [if_neg c3]
          exact hs
      · rw [if_neg c2]
        by_cases c3 : tkV T n s = 116
        · rw [if_pos c3]
          unfold pTax
          by_cases c4 : D 4 = 0
          · rw [if_pos c4]
            refine pNum_ok hN (fun v b _ hv hb => pEnd_ok hb ?_)
            have e : ∀ k, ¬ k = 2 → ¬ k = 4 → updN (updN D 2 v) 4 1 k = D k := fun k a b => by rw [updN_n _ _ b, updN_n _ _ a]
            refine ⟨by rw [e 0 (by omega) (by omega)]; exact h0, by rw [e 1 (by omega) (by omega)]; exact h1, by rw [updN_n _ _ (by omega), updN_s]; omega, by rw [e 3 (by omega) (by omega)]; exact h3, by rw [updN_s]; exact Nat.le_refl _, by rw [e 5 (by omega) (by omega)]; exact h5, fun j hj => ?_, fun j hj => ?_, fun j hj => ?_, fun j hj => ?_⟩
            · rw [e 0 (by omega) (by omega)] at hj
              rw [e (10 + j) (by omega) (by omega)]; exact h6 j hj
            · rw [e 1 (by omega) (by omega)] at hj
              rw [e (20 + j) (by omega) (by omega), e 0 (by omega) (by omega)]; exact h7 j hj
            · rw [e 1 (by omega) (by omega)] at hj
              rw [e (30 + j) (by omega) (by omega)]; exact h8 j hj
            · rw [e 1 (by omega) (by omega)] at hj
              rw [e (40 + j) (by omega) (by omega)]; exact h9 j hj
          · rw [if_neg c4]
            exact hs
        · rw [if_neg c3]
          by_cases c4 : tkV T n s = 119
          · rw [if_pos c4]
            unfold pWarm
            by_cases c5 : D 5 = 0
            · rw [if_pos c5]
              refine pNum_ok hN (fun v b _ hv hb => pEnd_ok hb ?_)
              have e : ∀ k, ¬ k = 3 → ¬ k = 5 → updN (updN D 3 v) 5 1 k = D k := fun k a b => by rw [updN_n _ _ b, updN_n _ _ a]
              refine ⟨by rw [e 0 (by omega) (by omega)]; exact h0, by rw [e 1 (by omega) (by omega)]; exact h1, by rw [e 2 (by omega) (by omega)]; exact h2, by rw [updN_n _ _ (by omega), updN_s]; omega, by rw [e 4 (by omega) (by omega)]; exact h4, by rw [updN_s]; exact Nat.le_refl _, fun j hj => ?_, fun j hj => ?_, fun j hj => ?_, fun j hj => ?_⟩
              · rw [e 0 (by omega) (by omega)] at hj
                rw [e (10 + j) (by omega) (by omega)]; exact h6 j hj
              · rw [e 1 (by omega) (by omega)] at hj
                rw [e (20 + j) (by omega) (by omega), e 0 (by omega) (by omega)]; exact h7 j hj
              · rw [e 1 (by omega) (by omega)] at hj
                rw [e (30 + j) (by omega) (by omega)]; exact h8 j hj
              · rw [e 1 (by omega) (by omega)] at hj
                rw [e (40 + j) (by omega) (by omega)]; exact h9 j hj
            · rw [if_neg c5]
              exact hs
          · rw [if_neg c4]
            exact hs
  · rw [if_neg c]
    exact hs
theorem tkV_2 {T : Nat → Nat} {n s : Nat} (h : tkK T n s = 2) : tkV T n s ≤ 99 := by
  unfold tkK at h
  unfold tkV
  by_cases c : s < n
  · rw [if_pos c] at h
    by_cases c1 : isL (T s) = true
    · rw [if_pos c1] at h
      split at h <;> omega
    · rw [if_neg c1] at h ⊢
      by_cases c2 : isG (T s) = true
      · rw [if_pos c2] at h
        split at h
        · omega
        · omega
      · rw [if_neg c2] at h
        split at h <;> omega
  · rw [if_neg c] at h
    omega
theorem tkV_1 {T : Nat → Nat} {n s : Nat} (hT : ∀ j, j < n → T j < 256) (h : tkK T n s = 1) : tkV T n s ≤ 122 := by
  unfold tkK at h
  unfold tkV
  by_cases c : s < n
  · rw [if_pos c] at h
    by_cases c1 : isL (T s) = true
    · rw [if_pos c1]
      have : 97 ≤ T s ∧ T s ≤ 122 := of_decide_eq_true c1
      exact this.2
    · rw [if_neg c1] at h
      by_cases c2 : isG (T s) = true
      · rw [if_pos c2] at h
        split at h <;> omega
      · rw [if_neg c2] at h
        split at h <;> omega
  · rw [if_neg c] at h
    omega
