/-! the heap's cells in groups, over plain numbers and rows: the class's 1 .. 167, the model's 168 .. 182 -/
def gD (hn : Nat) (M : zHp) : Prop := M 1 = .inr (11, [.ref 2, .ref 4, .ref 9, .ref 14, .ref 15, .ref 60, .ref 153, .ref 154, .ref 159, .ref 160, .int (nI hn), .ref 161])
def gR (ty : Nat) (tx : Nat → Int32) (M : zHp) : Prop := (∃ a b c e u v : Int32, M 2 = .inr (9, [.ref 3, .int (nI ty), .int a, .int b, .int c, .int e, .int u, .int v])) ∧ M 3 = .inl (0, 150, .inl tx)
def gF (M : zHp) : Prop := (∃ a b c e : Int32, M 4 = .inr (10, [.ref 5, .ref 6, .ref 7, .ref 8, .int a, .int b, .int c, .int e])) ∧ (∃ f, M 5 = .inl (0, 9, .inl f)) ∧ (∃ f, M 6 = .inl (0, 6, .inl f)) ∧ (∃ f, M 7 = .inl (0, 6, .inl f)) ∧ ∃ f, M 8 = .inl (0, 6, .inl f)
def gT (nh np : Nat) (hall er tp : Nat → Int32) (tax warm : Int32) (M : zHp) : Prop := M 9 = .inr (10, [.ref 10, .ref 11, .ref 12, .ref 13, .int (nI nh), .int (nI np), .int tax, .int warm]) ∧ M 10 = .inl (0, 9, .inl hall) ∧ (∃ f, M 11 = .inl (0, 6, .inl f)) ∧ M 12 = .inl (0, 6, .inl er) ∧ M 13 = .inl (0, 6, .inl tp)
/-- a Now at cell b, its rows behind it, holds v: places 0 .. 5, homes 6 .. 11, patience 12 .. 17, minute, offended, shut, other door -/
def gN (np b : Nat) (v : Nat → Int32) (M : zHp) : Prop := M b = .inr (6, [.ref (b + 1), .ref (b + 2), .ref (b + 3), .int (v 18), .int (v 19), .int (v 20), .int (v 21)]) ∧ (∃ f, M (b + 1) = .inl (0, 6, .inl f) ∧ ∀ j, j < min np 6 → f j = v j) ∧ (∃ f, M (b + 2) = .inl (0, 6, .inl f) ∧ ∀ j, j < min np 6 → f j = v (6 + j)) ∧ ∃ f, M (b + 3) = .inl (0, 6, .inl f) ∧ ∀ j, j < min np 6 → f j = v (12 + j)
/-- a Life at cell a (46 cells), holding what the row v has from 0 on: the state (22), how many are known (22), those (from 23, 22 each) -/
def gL (np a : Nat) (v : Nat → Int32) (kn : Nat) (M : zHp) : Prop := kn ≤ 10 ∧ M a = .inr (5, [.ref (a + 1), .ref (a + 5), .int (nI kn)]) ∧ gN np (a + 1) v M ∧ ∃ π : Nat → Nat, M (a + 5) = .inl (3, 10, .inr fun j => some (a + 6 + 4 * π j)) ∧ (∀ i, i < 10 → π i < 10) ∧ (∀ i j, i < 10 → j < 10 → π i = π j → i = j) ∧ (∀ i, i < 10 → ∃ u, gN np (a + 6 + 4 * π i) u M) ∧ ∀ i, i < kn → gN np (a + 6 + 4 * π i) (fun k => v (23 + 22 * i + k)) M
def gI (M : zHp) : Prop := M 60 = .inl (4, 2, .inr fun j => if j = 0 then some 61 else if j = 1 then some 107 else none)
def gK (k0 k1 : Bool) (M : zHp) : Prop := ∃ f, M 153 = .inl (2, 2, .inl f) ∧ f 0 = (if k0 then 1 else 0) ∧ f 1 = (if k1 then 1 else 0)
def gP (M : zHp) : Prop := (∃ a : Int32, M 154 = .inr (8, [.ref 9, .ref 15, .ref 155, .ref 156, .ref 157, .ref 158, .int a])) ∧ (∃ f, M 155 = .inl (0, 9, .inl f)) ∧ (∃ f, M 156 = .inl (0, 9, .inl f)) ∧ (∃ f, M 157 = .inl (0, 6, .inl f)) ∧ ∃ f, M 158 = .inl (0, 6, .inl f)
def gH (hh hm : Nat → Int32) (M : zHp) : Prop := M 159 = .inl (0, 6, .inl hh) ∧ M 160 = .inl (0, 6, .inl hm)
def gQ (tr : Int64) (M : zHp) : Prop := M 161 = .inl (5, 6, .inr fun j => if j = 0 then some 162 else if j = 1 then some 163 else if j = 2 then some 164 else if j = 3 then some 165 else if j = 4 then some 166 else if j = 5 then some 167 else none) ∧ ∃ q0 q1 q2 q3 q4 q5 : Int64, M 162 = .inr (3, [.ref 9, .ref 15, .long q0]) ∧ M 163 = .inr (4, [.ref 9, .ref 15, .long q1]) ∧ M 164 = .inr (1, [.ref 9, .ref 15, .long q2]) ∧ M 165 = .inr (7, [.ref 9, .ref 15, .long q3]) ∧ M 166 = .inr (2, [.ref 9, .ref 15, .long q4]) ∧ M 167 = .inr (0, [.ref 9, .ref 15, .long q5]) ∧ tr = q0 + q1 + q2 + q3 + q4 + q5
def mO (tr : Int64) (ty hn : Nat) (M : zHp) : Prop := ∃ lt a b c e u : Int32, M 168 = .inr (12, [.long tr, .ref 169, .int (nI ty), .ref 170, .ref 171, .ref 172, .ref 173, .ref 174, .ref 175, .ref 176, .int lt, .int a, .int b, .int c, .int e, .int u, .ref 177, .ref 178, .ref 179, .ref 180, .ref 181, .ref 182, .int (nI hn)])
def mX (ty : Nat) (tx : Nat → Int32) (M : zHp) : Prop := ∃ f, M 169 = .inl (1, 150, .inl f) ∧ ∀ j, j < ty → f j &&& 255 = tx j
def mT (nh np : Nat) (hall er tp : Nat → Int32) (tax warm : Int32) (M : zHp) : Prop := (∃ f, M 170 = .inl (0, 2, .inl f) ∧ f 0 = nI nh) ∧ (∃ f, M 171 = .inl (0, 18, .inl f) ∧ ∀ j, j < nh → f j = hall j) ∧ (∃ f, M 172 = .inl (0, 2, .inl f) ∧ f 0 = nI np) ∧ (∃ f, M 173 = .inl (0, 6, .inl f)) ∧ (∃ f, M 174 = .inl (0, 12, .inl f) ∧ ∀ j, j < np → f j = er j) ∧ (∃ f, M 175 = .inl (0, 12, .inl f) ∧ ∀ j, j < np → f j = tp j) ∧ ∃ f, M 176 = .inl (0, 4, .inl f) ∧ f 0 = tax ∧ f 1 = warm
def mN (nw : Nat → Int32) (M : zHp) : Prop := M 177 = .inl (0, 729, .inl nw)
def mK (k0 k1 : Bool) (M : zHp) : Prop := ∃ f, M 178 = .inl (2, 2, .inl f) ∧ f 0 = (if k0 then 1 else 0) ∧ f 1 = (if k1 then 1 else 0)
def mV (M : zHp) : Prop := (∃ f, M 179 = .inl (0, 6, .inl f)) ∧ ∃ f, M 180 = .inl (0, 6, .inl f)
def mH (hn : Nat) (hh hm : Nat → Int32) (M : zHp) : Prop := (∃ f, M 181 = .inl (0, 6, .inl f) ∧ ∀ j, j < hn → f j = hh j) ∧ ∃ f, M 182 = .inl (0, 6, .inl f) ∧ ∀ j, j < hn → f j = hm j
section FR
variable {M M' : zHp} {np : Nat}
theorem gD_fr {hn : Nat} (h : gD hn M) (e : M' 1 = M 1) : gD hn M' := e.trans h
theorem gR_fr {ty : Nat} {tx : Nat → Int32} (h : gR ty tx M) (e : ∀ k, 2 ≤ k → k ≤ 3 → M' k = M k) : gR ty tx M' := by
  unfold gR at h ⊢
  rw [e 2 (by decide) (by decide), e 3 (by decide) (by decide)]
  exact h
theorem gF_fr (h : gF M) (e : ∀ k, 4 ≤ k → k ≤ 8 → M' k = M k) : gF M' := by
  unfold gF at h ⊢
  rw [e 4 (by decide) (by decide), e 5 (by decide) (by decide), e 6 (by decide) (by decide), e 7 (by decide) (by decide), e 8 (by decide) (by decide)]
  exact h
theorem gT_fr {nh np : Nat} {hall er tp : Nat → Int32} {tax warm : Int32} (h : gT nh np hall er tp tax warm M) (e : ∀ k, 9 ≤ k → k ≤ 13 → M' k = M k) : gT nh np hall er tp tax warm M' := by
  unfold gT at h ⊢
  rw [e 9 (by decide) (by decide), e 10 (by decide) (by decide), e 11 (by decide) (by decide), e 12 (by decide) (by decide), e 13 (by decide) (by decide)]
  exact h
theorem gN_fr {b : Nat} {v : Nat → Int32} (h : gN np b v M) (e : ∀ k, b ≤ k → k ≤ b + 3 → M' k = M k) : gN np b v M' := by
  unfold gN at h ⊢
  rw [e b (by omega) (by omega), e (b + 1) (by omega) (by omega), e (b + 2) (by omega) (by omega), e (b + 3) (by omega) (by omega)]
  exact h
theorem gN_v {b : Nat} {v w : Nat → Int32} (h : gN np b v M) (e : ∀ k, k < 22 → v k = w k) : gN np b w M := by
  obtain ⟨h1, ⟨f1, a1, b1⟩, ⟨f2, a2, b2⟩, f3, a3, b3⟩ := h
  refine ⟨?_, ⟨f1, a1, fun j hj => (b1 j hj).trans (e j (by omega))⟩, ⟨f2, a2, fun j hj => (b2 j hj).trans (e _ (by omega))⟩, f3, a3, fun j hj => (b3 j hj).trans (e _ (by omega))⟩
  rw [← e 18 (by decide), ← e 19 (by decide), ← e 20 (by decide), ← e 21 (by decide)]
  exact h1
theorem gL_fr {a kn : Nat} {v : Nat → Int32} (h : gL np a v kn M) (e : ∀ k, a ≤ k → k ≤ a + 45 → M' k = M k) : gL np a v kn M' := by
  obtain ⟨h0, h1, h2, π, h3, h4, h5, h6, h7⟩ := h
  refine ⟨h0, by rw [e a (by omega) (by omega)]; exact h1, gN_fr h2 (fun k q1 q2 => e k (by omega) (by omega)), π, by rw [e (a + 5) (by omega) (by omega)]; exact h3, h4, h5, fun i hi => ?_, fun i hi => ?_⟩
  · obtain ⟨u, hu⟩ := h6 i hi
    have := h4 i hi
    exact ⟨u, gN_fr hu (fun k q1 q2 => e k (by omega) (by omega))⟩
  · have := h4 i (by omega)
    exact gN_fr (h7 i hi) (fun k q1 q2 => e k (by omega) (by omega))
theorem gI_fr (h : gI M) (e : M' 60 = M 60) : gI M' := e.trans h
theorem gK_fr {k0 k1 : Bool} (h : gK k0 k1 M) (e : M' 153 = M 153) : gK k0 k1 M' := by
  unfold gK at h ⊢
  rw [e]
  exact h
theorem gP_fr (h : gP M) (e : ∀ k, 154 ≤ k → k ≤ 158 → M' k = M k) : gP M' := by
  unfold gP at h ⊢
  rw [e 154 (by decide) (by decide), e 155 (by decide) (by decide), e 156 (by decide) (by decide), e 157 (by decide) (by decide), e 158 (by decide) (by decide)]
  exact h
theorem gH_fr {hh hm : Nat → Int32} (h : gH hh hm M) (e : ∀ k, 159 ≤ k → k ≤ 160 → M' k = M k) : gH hh hm M' := by
  unfold gH at h ⊢
  rw [e 159 (by decide) (by decide), e 160 (by decide) (by decide)]
  exact h
theorem gQ_fr {tr : Int64} (h : gQ tr M) (e : ∀ k, 161 ≤ k → k ≤ 167 → M' k = M k) : gQ tr M' := by
  unfold gQ at h ⊢
  rw [e 161 (by decide) (by decide), e 162 (by decide) (by decide), e 163 (by decide) (by decide), e 164 (by decide) (by decide), e 165 (by decide) (by decide), e 166 (by decide) (by decide), e 167 (by decide) (by decide)]
  exact h
theorem mO_fr {tr : Int64} {ty hn : Nat} (h : mO tr ty hn M) (e : M' 168 = M 168) : mO tr ty hn M' := by
  unfold mO at h ⊢
  rw [e]
  exact h
theorem mX_fr {ty : Nat} {tx : Nat → Int32} (h : mX ty tx M) (e : M' 169 = M 169) : mX ty tx M' := by
  unfold mX at h ⊢
  rw [e]
  exact h
theorem mT_fr {nh np : Nat} {hall er tp : Nat → Int32} {tax warm : Int32} (h : mT nh np hall er tp tax warm M) (e : ∀ k, 170 ≤ k → k ≤ 176 → M' k = M k) : mT nh np hall er tp tax warm M' := by
  unfold mT at h ⊢
  rw [e 170 (by decide) (by decide), e 171 (by decide) (by decide), e 172 (by decide) (by decide), e 173 (by decide) (by decide), e 174 (by decide) (by decide), e 175 (by decide) (by decide), e 176 (by decide) (by decide)]
  exact h
theorem mN_fr {nw : Nat → Int32} (h : mN nw M) (e : M' 177 = M 177) : mN nw M' := e.trans h
theorem mK_fr {k0 k1 : Bool} (h : mK k0 k1 M) (e : M' 178 = M 178) : mK k0 k1 M' := by
  unfold mK at h ⊢
  rw [e]
  exact h
theorem mV_fr (h : mV M) (e : ∀ k, 179 ≤ k → k ≤ 180 → M' k = M k) : mV M' := by
  unfold mV at h ⊢
  rw [e 179 (by decide) (by decide), e 180 (by decide) (by decide)]
  exact h
theorem mH_fr {hn : Nat} {hh hm : Nat → Int32} (h : mH hn hh hm M) (e : ∀ k, 181 ≤ k → k ≤ 182 → M' k = M k) : mH hn hh hm M' := by
  unfold mH at h ⊢
  rw [e 181 (by decide) (by decide), e 182 (by decide) (by decide)]
  exact h
end FR
