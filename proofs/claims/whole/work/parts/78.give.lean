/-! homes given out anew: numbers alone -/
def nS (f : Nat → Nat) : Nat → Nat
  | 0 => 0
  | n + 1 => nS f n + f n
theorem nS_congr {f g : Nat → Nat} : ∀ {n : Nat}, (∀ k, k < n → f k = g k) → nS f n = nS g n
  | 0, _ => rfl
  | n + 1, h => by
    show nS f n + f n = nS g n + g n
    rw [h n (by omega), nS_congr (fun k hk => h k (by omega))]
theorem nS_le {f : Nat → Nat} {K : Nat} : ∀ {n : Nat}, (∀ k, k < n → f k ≤ K) → nS f n ≤ K * n
  | 0, _ => Nat.zero_le _
  | n + 1, h => by
    have h1 := h n (by omega)
    have h2 := nS_le (f := f) (K := K) (n := n) (fun k hk => h k (by omega))
    show nS f n + f n ≤ K * (n + 1)
    rw [Nat.mul_succ]
    omega
theorem nS_mono (f : Nat → Nat) {p : Nat} : ∀ n : Nat, p ≤ n → nS f p ≤ nS f n
  | 0, h => by
    obtain rfl : p = 0 := by omega
    exact Nat.le_refl _
  | n + 1, h => by
    by_cases c : p = n + 1
    · subst c
      exact Nat.le_refl _
    · have := nS_mono f (p := p) n (by omega)
      show nS f p ≤ nS f n + f n
      omega
theorem nS_ge {f : Nat → Nat} {i : Nat} : ∀ n : Nat, i < n → f i ≤ nS f n
  | 0, h => by omega
  | n + 1, h => by
    show f i ≤ nS f n + f n
    by_cases c : i = n
    · subst c
      omega
    · have := nS_ge (f := f) n (by omega : i < n)
      omega
/-- one place changed -/
theorem nS_chg (f g : Nat → Nat) {m : Nat} (h : ∀ k, ¬ k = m → f k = g k) : ∀ n : Nat, m < n → nS f n + g m = nS g n + f m
  | 0, hm => by omega
  | n + 1, hm => by
    show nS f n + f n + g m = nS g n + g n + f m
    by_cases c : m = n
    · subst c
      rw [nS_congr (f := f) (g := g) (n := m) (fun k hk => h k (by omega))]
      omega
    · have := nS_chg f g h n (by omega)
      rw [h n (by omega)]
      omega
/-- no room for so many -/
theorem pigeon : ∀ (n : Nat) (f : Nat → Nat), (∀ j, j < n + 1 → f j < n) → (∀ i j, i < n + 1 → j < n + 1 → f i = f j → i = j) → False
  | 0, f, h, _ => by
    have := h 0 (by omega)
    omega
  | n + 1, f, h, hi => by
    refine pigeon n (fun j => if f j = n then f (n + 1) else f j) (fun j hj => ?_) (fun i j hi1 hj1 e => ?_)
    · show (if f j = n then f (n + 1) else f j) < n
      have h1 := h j (by omega)
      have h2 := h (n + 1) (by omega)
      by_cases c : f j = n
      · rw [if_pos c]
        have : ¬ f (n + 1) = n := fun q => by
          have := hi j (n + 1) (by omega) (by omega) (c.trans q.symm)
          omega
        omega
      · rw [if_neg c]
        omega
    · have e : (if f i = n then f (n + 1) else f i) = if f j = n then f (n + 1) else f j := e
      by_cases ci : f i = n
      · by_cases cj : f j = n
        · exact hi i j (by omega) (by omega) (ci.trans cj.symm)
        · rw [if_pos ci, if_neg cj] at e
          have := hi (n + 1) j (by omega) (by omega) e
          omega
      · by_cases cj : f j = n
        · rw [if_neg ci, if_pos cj] at e
          have := hi i (n + 1) (by omega) (by omega) e
          omega
        · rw [if_neg ci, if_neg cj] at e
          exact hi i j (by omega) (by omega) e
/-- a way to give n things anew -/
def Val (n : Nat) (s : Nat → Nat) : Prop := (∀ j, j < n → s j < n) ∧ ∀ i j, i < n → j < n → s i = s j → i = j
theorem nS_perm (φ : Nat → Nat) : ∀ (n : Nat) (s : Nat → Nat), Val n s → nS (fun j => φ (s j)) n = nS φ n
  | 0, _, _ => rfl
  | n + 1, s, hv => by
    obtain ⟨h1, h2⟩ := hv
    show nS (fun j => φ (s j)) n + φ (s n) = nS φ n + φ n
    have hm := h1 n (by omega)
    by_cases c : s n = n
    · rw [c, nS_perm φ n s ⟨fun j hj => ?_, fun i j hi hj e => h2 i j (by omega) (by omega) e⟩]
      have := h1 j (by omega)
      have : ¬ s j = n := fun q => by
        have := h2 j n (by omega) (by omega) (q.trans c.symm)
        omega
      omega
    · -- some place goes to n
      have hex : ∃ i, i < n ∧ s i = n := by
        refine Classical.byContradiction (fun hno => ?_)
        refine pigeon n s (fun j hj => ?_) h2
        have := h1 j hj
        have : ¬ s j = n := fun q => by
          by_cases cj : j = n
          · subst cj
            exact c q
          · exact hno ⟨j, by omega, q⟩
        omega
      obtain ⟨i0, hi0, e0⟩ := hex
      have key := nS_perm φ n (fun j => if j = i0 then s n else s j) ⟨fun j hj => ?_, fun i j hi hj e => ?_⟩
      · have e1 := nS_chg (fun j => φ (s j)) (fun j => φ (if j = i0 then s n else s j)) (m := i0) (fun k hk => by show φ (s k) = φ (if k = i0 then s n else s k); rw [if_neg hk]) n hi0
        have e1 : nS (fun j => φ (s j)) n + φ (if i0 = i0 then s n else s i0) = nS (fun j => φ (if j = i0 then s n else s j)) n + φ (s i0) := e1
        rw [if_pos rfl, e0, key] at e1
        omega
      · show (if j = i0 then s n else s j) < n
        by_cases cj : j = i0
        · rw [if_pos cj]
          omega
        · rw [if_neg cj]
          have := h1 j (by omega)
          have : ¬ s j = n := fun q => cj (h2 j i0 (by omega) (by omega) (q.trans e0.symm))
          omega
      · have e : (if i = i0 then s n else s i) = if j = i0 then s n else s j := e
        by_cases ci : i = i0
        · by_cases cj : j = i0
          · rw [ci, cj]
          · rw [if_pos ci, if_neg cj] at e
            have := h2 n j (by omega) (by omega) e
            omega
        · by_cases cj : j = i0
          · rw [if_neg ci, if_pos cj] at e
            have := h2 i n (by omega) (by omega) e
            omega
          · rw [if_neg ci, if_neg cj] at e
            exact h2 i j (by omega) (by omega) e
def cnt1 (g : Nat → Nat) (h n : Nat) : Nat := nS (fun q => if g q = h then 1 else 0) n
/-- with as many of each, one is the other given anew -/
theorem perm_of : ∀ (n : Nat) (g H : Nat → Nat), (∀ h, cnt1 g h n = cnt1 H h n) → ∃ s, Val n s ∧ ∀ j, j < n → g j = H (s j)
  | 0, _, _, _ => ⟨fun j => j, ⟨fun j hj => by omega, fun i j hi => by omega⟩, fun j hj => by omega⟩
  | n + 1, g, H, hc => by
    have hm : ∃ m, m < n + 1 ∧ H m = g n := by
      refine Classical.byContradiction (fun hno => ?_)
      have e := hc (g n)
      have e1 : 1 ≤ cnt1 g (g n) (n + 1) := by
        have := nS_ge (f := fun q => if g q = g n then 1 else 0) (i := n) (n + 1) (by omega)
        have : (if g n = g n then 1 else 0) ≤ cnt1 g (g n) (n + 1) := this
        rw [if_pos rfl] at this
        exact this
      have e2 : cnt1 H (g n) (n + 1) = 0 := by
        have := nS_le (f := fun q => if H q = g n then 1 else 0) (K := 0) (n := n + 1) (fun k hk => by
          show (if H k = g n then 1 else 0) ≤ 0
          rw [if_neg (fun q => hno ⟨k, hk, q⟩)]
          exact Nat.le_refl _)
        have : cnt1 H (g n) (n + 1) ≤ 0 * (n + 1) := this
        omega
      omega
    obtain ⟨m, hm1, hm2⟩ := hm
    have hc' : ∀ h, cnt1 g h n = cnt1 (fun j => if j = m then H n else H j) h n := by
      intro h
      have e := hc h
      have e : cnt1 g h n + (if g n = h then 1 else 0) = cnt1 H h n + (if H n = h then 1 else 0) := e
      by_cases c : m = n
      · have : cnt1 (fun j => if j = m then H n else H j) h n = cnt1 H h n := nS_congr (fun k hk => by
          show (if (if k = m then H n else H k) = h then 1 else 0) = if H k = h then 1 else 0
          rw [if_neg (by omega : ¬ k = m)])
        rw [this]
        rw [c] at hm2
        rw [hm2] at e
        omega
      · have e1 := nS_chg (fun q => if (if q = m then H n else H q) = h then 1 else 0) (fun q => if H q = h then 1 else 0) (m := m) (fun k hk => by
          show (if (if k = m then H n else H k) = h then 1 else 0) = if H k = h then 1 else 0
          rw [if_neg hk]) n (by omega)
        have e1 : cnt1 (fun j => if j = m then H n else H j) h n + (if H m = h then 1 else 0) = cnt1 H h n + (if (if m = m then H n else H m) = h then 1 else 0) := e1
        rw [if_pos rfl, hm2] at e1
        omega
    obtain ⟨t, ⟨ht1, ht2⟩, ht3⟩ := perm_of n g _ hc'
    refine ⟨fun j => if j = n then m else if t j = m then n else t j, ⟨fun j hj => ?_, fun i j hi hj e => ?_⟩, fun j hj => ?_⟩
    · show (if j = n then m else if t j = m then n else t j) < n + 1
      by_cases c : j = n
      · rw [if_pos c]; exact hm1
      · rw [if_neg c]
        have := ht1 j (by omega)
        split <;> omega
    · have e : (if i = n then m else if t i = m then n else t i) = if j = n then m else if t j = m then n else t j := e
      have hne : ∀ k, k < n → ¬ m = (if t k = m then n else t k) := by
        intro k hk q
        have := ht1 k hk
        by_cases c : t k = m
        · rw [if_pos c] at q; omega
        · rw [if_neg c] at q; omega
      by_cases ci : i = n
      · by_cases cj : j = n
        · omega
        · rw [if_pos ci, if_neg cj] at e
          exact (hne j (by omega) e).elim
      · by_cases cj : j = n
        · rw [if_neg ci, if_pos cj] at e
          exact (hne i (by omega) e.symm).elim
        · rw [if_neg ci, if_neg cj] at e
          have hi' := ht1 i (by omega)
          have hj' := ht1 j (by omega)
          refine ht2 i j (by omega) (by omega) ?_
          by_cases c1 : t i = m
          · by_cases c2 : t j = m
            · omega
            · rw [if_pos c1, if_neg c2] at e; omega
          · by_cases c2 : t j = m
            · rw [if_neg c1, if_pos c2] at e; omega
            · rw [if_neg c1, if_neg c2] at e; exact e
    · show g j = H (if j = n then m else if t j = m then n else t j)
      by_cases c : j = n
      · rw [if_pos c, c, hm2]
      · rw [if_neg c]
        have := ht3 j (by omega)
        have : g j = (if t j = m then H n else H (t j)) := this
        rw [this]
        split <;> rfl
/-- the order of rows, as numbers -/
def vl (g : Nat → Nat) : Nat → Nat
  | 0 => 0
  | n + 1 => vl g n * 10 + g n
theorem vl_congr {x y : Nat → Nat} : ∀ {n : Nat}, (∀ k, k < n → x k = y k) → vl x n = vl y n
  | 0, _ => rfl
  | n + 1, h => by
    show vl x n * 10 + x n = vl y n * 10 + y n
    rw [h n (by omega), vl_congr (fun k hk => h k (by omega))]
theorem vl_lt {x y : Nat → Nat} {i : Nat} (he : ∀ j, j < i → x j = y j) (hl : x i < y i) : ∀ n : Nat, i < n → (∀ j, j < n → x j < 10) → vl x n < vl y n
  | 0, hi, _ => by omega
  | n + 1, hi, hx => by
    show vl x n * 10 + x n < vl y n * 10 + y n
    by_cases c : i = n
    · subst c
      rw [vl_congr (x := x) (y := y) (n := i) he]
      omega
    · have := vl_lt he hl n (by omega) (fun j hj => hx j (by omega))
      have := hx n (by omega)
      omega
theorem vl_b {x : Nat → Nat} : ∀ n : Nat, (∀ j, j < n → x j < 10) → vl x n < 10 ^ n
  | 0, _ => by
    show 0 < 10 ^ 0
    decide
  | n + 1, h => by
    have h1 := vl_b n (fun j hj => h j (by omega))
    have h2 := h n (by omega)
    show vl x n * 10 + x n < 10 ^ (n + 1)
    rw [Nat.pow_succ]
    omega
/-- the first place at which two rows differ -/
theorem first_ne {x y : Nat → Nat} : ∀ n : Nat, (∀ j, j < n → x j = y j) ∨ ∃ i, i < n ∧ (∀ j, j < i → x j = y j) ∧ ¬ x i = y i
  | 0 => Or.inl (fun j hj => by omega)
  | n + 1 => by
    rcases first_ne (x := x) (y := y) n with h | ⟨i, h1, h2, h3⟩
    · by_cases c : x n = y n
      · refine Or.inl (fun j hj => ?_)
        by_cases cj : j = n
        · rw [cj]; exact c
        · exact h j (by omega)
      · exact Or.inr ⟨n, by omega, h, c⟩
    · exact Or.inr ⟨i, by omega, h2, h3⟩
theorem vl_inj {x y : Nat → Nat} {n : Nat} (hx : ∀ j, j < n → x j < 10) (hy : ∀ j, j < n → y j < 10) (e : vl x n = vl y n) : ∀ j, j < n → x j = y j := by
  rcases first_ne (x := x) (y := y) n with h | ⟨i, h1, h2, h3⟩
  · exact h
  · rcases Nat.lt_or_gt_of_ne h3 with h4 | h4
    · have := vl_lt h2 h4 n h1 hx
      omega
    · have := vl_lt (fun j hj => (h2 j hj).symm) h4 n h1 hy
      omega
/-- what homes given so cost, and their order -/
def cstG (er cs : Nat → Nat) (np : Nat) (g : Nat → Nat) : Nat := nS (fun q => er q * cs (g q)) np
def keyG (er cs : Nat → Nat) (np : Nat) (g : Nat → Nat) : Nat := cstG er cs np g * 10 ^ np + vl g np
/-- homes given anew -/
def Arr (H : Nat → Nat) (nh np : Nat) (g : Nat → Nat) : Prop := (∀ j, j < np → g j < nh) ∧ ∀ h, cnt1 g h np = cnt1 H h np
theorem key_inj {er cs H b c : Nat → Nat} {nh np : Nat} (hb : nh ≤ 9) (h1 : Arr H nh np b) (h2 : Arr H nh np c) (k1 : ∀ g, Arr H nh np g → keyG er cs np b ≤ keyG er cs np g) (k2 : ∀ g, Arr H nh np g → keyG er cs np c ≤ keyG er cs np g) : cstG er cs np b = cstG er cs np c ∧ ∀ j, j < np → b j = c j := by
  have e : keyG er cs np b = keyG er cs np c := Nat.le_antisymm (k1 c h2) (k2 b h1)
  unfold keyG at e
  have b1 := vl_b (x := b) np (fun j hj => by have := h1.1 j hj; omega)
  have b2 := vl_b (x := c) np (fun j hj => by have := h2.1 j hj; omega)
  have e1 : cstG er cs np b = cstG er cs np c := by
    have q1 : (cstG er cs np b * 10 ^ np + vl b np) / 10 ^ np = cstG er cs np b := by
      rw [Nat.add_comm, Nat.add_mul_div_right _ _ (Nat.pow_pos (by decide)), Nat.div_eq_of_lt b1, Nat.zero_add]
    have q2 : (cstG er cs np c * 10 ^ np + vl c np) / 10 ^ np = cstG er cs np c := by
      rw [Nat.add_comm, Nat.add_mul_div_right _ _ (Nat.pow_pos (by decide)), Nat.div_eq_of_lt b2, Nat.zero_add]
    rw [← q1, ← q2, e]
  refine ⟨e1, vl_inj (fun j hj => by have := h1.1 j hj; omega) (fun j hj => by have := h2.1 j hj; omega) ?_⟩
  rw [e1] at e
  omega
theorem key_lt {er cs x y : Nat → Nat} {np : Nat} (hx : ∀ j, j < np → x j < 10) (h : cstG er cs np x < cstG er cs np y) : keyG er cs np x ≤ keyG er cs np y := by
  have b1 := vl_b (x := x) np hx
  have : (cstG er cs np x + 1) * 10 ^ np ≤ cstG er cs np y * 10 ^ np := Nat.mul_le_mul_right _ h
  rw [Nat.add_mul, Nat.one_mul] at this
  unfold keyG
  omega
theorem key_le {er cs x y : Nat → Nat} {np : Nat} (h : cstG er cs np x ≤ cstG er cs np y) (hv : vl x np ≤ vl y np) : keyG er cs np x ≤ keyG er cs np y := by
  have : cstG er cs np x * 10 ^ np ≤ cstG er cs np y * 10 ^ np := Nat.mul_le_mul_right _ h
  unfold keyG
  omega
