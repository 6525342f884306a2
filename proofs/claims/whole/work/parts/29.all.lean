/-! all of it: class and model hold the same -/
def okN (nh np : Nat) (v : Nat → Int32) : Prop := (∀ p, p < np → ∃ h, h < nh ∧ v (6 + p) = nI h) ∧ (∀ p, p < np → v p = -5 ∨ ∃ h, h < nh ∧ v p = nI h) ∧ (∀ p, p < np → ∃ c, c ≤ 50 ∧ v (12 + p) = nI c) ∧ (∃ s, s < 2 ^ nh ∧ v 20 = nI s) ∧ (v 21 = -9 ∨ ∃ o, 1 ≤ o ∧ o < nh ∧ v 21 = nI o)
def okL (nh np : Nat) (v : Nat → Int32) : Prop := okN nh np v ∧ ∃ kn, kn ≤ 10 ∧ v 22 = nI kn ∧ ∀ i, i < kn → okN nh np (fun k => v (23 + 22 * i + k))
/-- an image, if one was kept -/
def gJ (np a o : Nat) (kp : Bool) (nw : Nat → Int32) (M : zHp) : Prop := ∃ v kn, gL np a v kn M ∧ (kp = true → (∀ j, j < 243 → v j = nw (o + j)) ∧ nw (o + 22) = nI kn)
def gA (np : Nat) (nw : Nat → Int32) (M : zHp) : Prop := ∃ kn, nw 22 = nI kn ∧ gL np 14 nw kn M
theorem gA_fr {np : Nat} {nw : Nat → Int32} {M M' : zHp} (h : gA np nw M) (e : ∀ k, 14 ≤ k → k ≤ 59 → M' k = M k) : gA np nw M' := by
  obtain ⟨kn, h1, h2⟩ := h
  exact ⟨kn, h1, gL_fr h2 e⟩
theorem gJ_fr {np : Nat} {a o : Nat} {kp : Bool} {nw : Nat → Int32} {M M' : zHp} (h : gJ np a o kp nw M) (e : ∀ k, a ≤ k → k ≤ a + 45 → M' k = M k) : gJ np a o kp nw M' := by
  obtain ⟨v, kn, h1, h2⟩ := h
  exact ⟨v, kn, gL_fr h1 e, h2⟩
def IC (ty nh np hn : Nat) (k0 k1 : Bool) (tr : Int64) (tx hall er tp nw hh hm : Nat → Int32) (tax warm : Int32) (M : zHp) : Prop :=
  gD hn M ∧ gR ty tx M ∧ gF M ∧ gT nh np hall er tp tax warm M ∧ gA np nw M ∧ gJ np 61 243 k0 nw M ∧ gJ np 107 486 k1 nw M ∧ gI M ∧ gK k0 k1 M ∧ gP M ∧ gH hh hm M ∧ gQ tr M
def IM (ty nh np hn : Nat) (k0 k1 : Bool) (tr : Int64) (tx hall er tp nw hh hm : Nat → Int32) (tax warm : Int32) (M : zHp) : Prop :=
  mO tr ty hn M ∧ mX ty tx M ∧ mT nh np hall er tp tax warm M ∧ mN nw M ∧ mK k0 k1 M ∧ mV M ∧ mH hn hh hm M
def Okk (ty nh np hn : Nat) (k0 k1 : Bool) (tx hall er tp nw hh hm : Nat → Int32) (tax warm : Int32) : Prop :=
  (ty ≤ 150 ∧ ∀ j, j < ty → ∃ c, c < 256 ∧ tx j = nI c) ∧ (nh ≤ 9 ∧ np ≤ 6 ∧ (∀ j, j < nh → ∃ c, c ≤ 9 ∧ hall j = nI c) ∧ (∀ j, j < np → ∃ c, c ≤ 9 ∧ er j = nI c) ∧ (∀ j, j < np → ∃ c, c ≤ 50 ∧ tp j = nI c) ∧ (∃ c, c ≤ 99 ∧ tax = nI c) ∧ ∃ c, c ≤ 60 ∧ warm = nI c) ∧ (hn ≤ 6 ∧ (∀ j, j < hn → ∃ c, c < nh ∧ hh j = nI c) ∧ ∀ j, j < hn → ∃ c, c ≤ 99 ∧ hm j = nI c) ∧ okL nh np nw ∧ (k0 = true → okL nh np (fun k => nw (243 + k))) ∧ (k1 = true → okL nh np (fun k => nw (486 + k)))
def Inv (M : zHp) : Prop := ∃ (ty nh np hn : Nat) (k0 k1 : Bool) (tr : Int64) (tx hall er tp nw hh hm : Nat → Int32) (tax warm : Int32), IC ty nh np hn k0 k1 tr tx hall er tp nw hh hm tax warm M ∧ IM ty nh np hn k0 k1 tr tx hall er tp nw hh hm tax warm M ∧ Okk ty nh np hn k0 k1 tx hall er tp nw hh hm tax warm
/-- a call on both sides: the same answer, and all holds behind it -/
def Pair (y z : zM) (as : List Value) (M : zHp) : Prop := ∀ d N S, ∃ (r : Int32) (M1 M2 : zHp), zRuns (d + 12) y (.ref 1 :: as) M N S (some (.int r), M1, N, S) ∧ zRuns (d + 12) z (.ref 168 :: as) M1 N S (some (.int r), M2, N, S) ∧ Inv M2 ∧ M2 0 = M 0 ∧ M1 0 = M 0 ∧ M1 168 = M 168
