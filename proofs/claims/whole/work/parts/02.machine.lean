/-! A SMALL MACHINE over the kit's: heap cells by relative numbers (0: the script, k + 1: the k-th cell made since the law began), instructions as functions. -/
abbrev zAC : Type := (Nat × Nat × ((Nat → Int32) ⊕ (Nat → Option Nat))) ⊕ (Nat × List Value)
abbrev zHp : Type := Nat → zAC
/-- locals, operand stack, heap, cells made, their slots -/
abbrev zC : Type := List Value × List Value × zHp × Nat × Nat
/-- an end: what is returned, heap, cells, slots -/
abbrev zF : Type := Option Value × zHp × Nat × Nat
abbrev zM : Type := MethodName × ByteArray × Nat × Option FieldType
/-- what an instruction does: goes on; branches (whether, where); returns; calls -/
abbrev zR : Type := zC ⊕ (Bool × Nat × zC) ⊕ zF ⊕ (zM × List Value × zC)
abbrev zI : Type := zC → Option zR
def zAd (base b : Nat) : Nat → Nat
  | 0 => b
  | k + 1 => base + k
def zV (base b : Nat) : Value → Value
  | .ref k => .ref (zAd base b k)
  | v => v
def zA (base b : Nat) : ((Nat → Int32) ⊕ (Nat → Option Nat)) → ((Nat → Int32) ⊕ (Nat → Int64) ⊕ (Nat → UInt32) ⊕ (Nat → UInt64) ⊕ (Nat → Option Nat))
  | .inl f => .inl f
  | .inr f => .inr (.inr (.inr (.inr (fun j => (f j).map (zAd base b)))))
def zE (aC : Nat → ClassId) (base b : Nat) : zAC → va_E
  | .inl a => .inl (aC a.1, a.2.1, zA base b a.2.2)
  | .inr o => .inr (o.1, o.2.map (zV base b))
def zW (aC : Nat → ClassId) (base b : Nat) (M : zHp) (N : Nat) : va_W := (List.range N).map fun k => (base + k, zE aC base b (M (k + 1)))
def zTys (aC : Nat → ClassId) : List (ClassId × FieldType) := [(aC 0, .int), (aC 1, .byte), (aC 2, .boolean), (aC 3, .object "OneDoor$Now"), (aC 4, .object "OneDoor$Life"), (aC 5, .object "OneDoor$Hall")]
/-- a cell that is not there -/
def zvoid : zAC := .inl (9, 0, .inl fun _ => 0)
def zWd (D : va_G) (aC : Nat → ClassId) (base b L : Nat) (xs : Nat → Int32) (M : zHp) (N : Nat) (s : State) (H : Heap) (locs : List Loc) : Prop :=
  va_P D zCl (zW aC base b M N) H ∧ va_S (fun q => base ≤ q) s.heap H locs ∧ M 0 = .inl (0, L, .inl xs) ∧ ∀ k, N < k → M k = zvoid
/-- the locals: a '.retAddr 0' is a place not set, '.retAddr 1' the second one of a long -/
def zL (base b nL : Nat) (ls : List Value) (lsA : Array Slot) : Prop :=
  ls.length = nL ∧ lsA.size = nL ∧ lv_wf lsA ∧ (∀ (i : Nat) (v : Value), ls[i]? = some v → (∀ r, v ≠ Value.retAddr r) → lsA[i]? = some (Slot.val (zV base b v))) ∧ (∀ (i : Nat) (x : Int64), ls[i]? = some (Value.long x) → ls[i + 1]? = some (Value.retAddr 1)) ∧ ∀ (i : Nat) (x : UInt64), ls[i]? ≠ some (Value.double x)
def zPc (D : va_G) (aC : Nat → ClassId) (base b L : Nat) (xs : Nat → Int32) (as : List Value) (M : zHp) (N : Nat) : Array Value → State → Prop := fun v U =>
  v = (as.map (zV base b)).toArray ∧ U.heap.size = base + N ∧ va_P D zCl (zW aC base b M N) U.heap ∧ M 0 = .inl (0, L, .inl xs) ∧ (∀ k, N < k → M k = zvoid) ∧ va_K D zCl (zTys aC) U ∧ va_X b L xs U U.heap ∧ b < base ∧ zBd U
def zQ (D : va_G) (aC : Nat → ClassId) (base b L : Nat) (xs : Nat → Int32) (f : zF) : Array Value → State → Outcome → State → Prop := fun _ st oc t =>
  oc = .returned (f.1.map (zV base b)) ∧ va_P D zCl (zW aC base b f.2.1 f.2.2.1) t.heap ∧ f.2.1 0 = .inl (0, L, .inl xs) ∧ (∀ k, f.2.2.1 < k → f.2.1 k = zvoid) ∧ va_F (fun q => base ≤ q) st t
def zwd (md : zM) : List Cond := .code md.1 md.2.1 md.2.2.1 md.2.2.2 :: zgt
def zRoom (F mc ms : Nat) : Room := { frames := F, cells := mc, slots := ms, locals := 60 * F }
/-- method md, called with these on this heap, ends so (level d: frames that it may need) -/
def zRuns (d : Nat) (md : zM) (as : List Value) (M : zHp) (N S : Nat) (f : zF) : Prop :=
  N ≤ f.2.2.1 ∧ S ≤ f.2.2.2 ∧ ∀ (l : Launch) (D : va_G) (aC : Nat → ClassId) (base b L : Nat) (xs : Nat → Int32) (F : Nat), d < F →
    Met l md.1 (zwd md) (zRoom F (f.2.2.1 - N) (f.2.2.2 - S)) (zPc D aC base b L xs as M N) (zQ D aC base b L xs f) (f.2.2.1 - N) (f.2.2.2 - S) (fun q => base ≤ q)
/-- what holds throughout a method's body -/
def zX (d : Nat) (md : zM) (f : zF) (p : Program) (R : Room) (s : State) (m : MethodId) (args : Array Value) (meth : Method) (c : Code) (D : va_G) (aC : Nat → ClassId) (base b L : Nat) (xs : Nat → Int32) (n0 s0 F : Nat) : Prop :=
  p.tables.exec = Jvm.exec ∧ c.code = md.2.1 ∧ c.maxLocals = md.2.2.1 ∧ s.vm.findClass md.1.cls = some m.cls ∧ (∀ w ∈ zgt, w.before args s = true) ∧ meth.locks = false ∧ meth.sig.returnType = md.2.2.2 ∧ (md.1.name = "<init>" → meth.name = "<init>") ∧
  va_K D zCl (zTys aC) s ∧ va_X b L xs s s.heap ∧ b < base ∧ s.heap.size = base + n0 ∧ f.2.2.1 - n0 ≤ R.cells ∧ f.2.2.2 - s0 ≤ R.slots ∧ F ≤ R.frames ∧ 60 * F ≤ R.locals ∧ d < F ∧ zBd s
/-- from this place of md's code with this configuration it ends so -/
def zGo (d : Nat) (md : zM) (pc : Nat) (k : zC) (f : zF) : Prop :=
  k.2.2.2.1 ≤ f.2.2.1 ∧ k.2.2.2.2 ≤ f.2.2.2 ∧ ∀ (p : Program) (l : Launch) (e : Env) (R : Room) (s : State) (m : MethodId) (args : Array Value) (below : List Frame) (meth : Method) (c : Code) (D : va_G) (aC : Nat → ClassId) (base b L : Nat) (xs : Nat → Int32) (n0 s0 F : Nat),
    zX d md f p R s m args meth c D aC base b L xs n0 s0 F → n0 ≤ k.2.2.2.1 → s0 ≤ k.2.2.2.2 → ∀ (H : Heap) (locs : List Loc) (lsA : Array Slot), zWd D aC base b L xs k.2.2.1 k.2.2.2.1 s H locs → zL base b md.2.2.1 k.1 lsA →
      W p l e R s m args below meth c H locs (k.2.2.2.1 - n0) (k.2.2.2.2 - s0) (MQ below (zQ D aC base b L xs f) args s (f.2.2.1 - n0) (f.2.2.2 - s0) (fun q => base ≤ q)) (F0 m pc lsA (k.2.1.map (zV base b)))
/-- what is behind an instruction -/
def zT (d : Nat) (md : zM) (f : zF) (pc : Nat) : zR → Prop
  | .inl k => zGo d md pc k f
  | .inr (.inl (t, q, k)) => if t = true then zGo d md q k f else zGo d md pc k f
  | .inr (.inr (.inl g)) => g = f
  | .inr (.inr (.inr (y, as, k))) => ∃ d' g, d = d' + 1 ∧ zRuns d' y as k.2.2.1 k.2.2.2.1 k.2.2.2.2 g ∧ zGo d md pc (k.1, g.1.toList ++ k.2.1, g.2) f
/-- a row of instructions from a configuration on: what is to be shown -/
def zB (d : Nat) (md : zM) (f : zF) : List zI → zC → Prop
  | [], _ => False
  | i :: is, c => match i c with
    | none => False
    | some (.inl k) => zB d md f is k
    | some (.inr (.inl (t, q, k))) => if t = true then zGo d md q k f else zB d md f is k
    | some (.inr (.inr (.inl g))) => g = f
    | some (.inr (.inr (.inr (y, as, k)))) => ∃ d' g, d = d' + 1 ∧ zRuns d' y as k.2.2.1 k.2.2.2.1 k.2.2.2.2 g ∧ zB d md f is (k.1, g.1.toList ++ k.2.1, g.2)
/-- instruction i stands at pc of md, the next one at pc' -/
def zS (md : zM) (pc pc' : Nat) (i : zI) : Prop := ∀ (d : Nat) (f : zF) (c : zC) (r : zR), i c = some r → zT d md f pc' r → zGo d md pc c f
def zOk (md : zM) (pc : Nat) (is : List zI) : Prop := ∀ (d : Nat) (f : zF) (c : zC), zB d md f is c → zGo d md pc c f
theorem zOk_nil (md : zM) (pc : Nat) : zOk md pc [] := fun _ _ _ h => h.elim
theorem zOk_cons {md : zM} {pc pc' : Nat} {i : zI} {is : List zI} (h1 : zS md pc pc' i) (h2 : zOk md pc' is) : zOk md pc (i :: is) := by
  intro d f c h
  unfold zB at h
  cases hr : i c with
  | none => rw [hr] at h; exact h.elim
  | some r =>
    rw [hr] at h
    refine h1 d f c r hr ?_
    match r, h with
    | .inl k, h => exact h2 d f k h
    | .inr (.inl (t, q, k)), h =>
      show if t = true then zGo d md q k f else zGo d md pc' k f
      by_cases ht : t = true
      · rw [if_pos ht]
        have h : if t = true then zGo d md q k f else zB d md f is k := h
        rw [if_pos ht] at h
        exact h
      · rw [if_neg ht]
        have h : if t = true then zGo d md q k f else zB d md f is k := h
        rw [if_neg ht] at h
        exact h2 d f k h
    | .inr (.inr (.inl g)), h => exact h
    | .inr (.inr (.inr (y, as, k))), h =>
      obtain ⟨d', g, e1, e2, e3⟩ := h
      exact ⟨d', g, e1, e2, h2 d f _ e3⟩
-- the world as a list
theorem zW_len (aC : Nat → ClassId) (base b : Nat) (M : zHp) (N : Nat) : (zW aC base b M N).length = N := by simp [zW]
theorem zW_get {aC : Nat → ClassId} {base b : Nat} {M : zHp} {N k : Nat} (h : k < N) : (zW aC base b M N)[k]? = some (base + k, zE aC base b (M (k + 1))) := by
  simp [zW, h]
theorem zW_lt {aC : Nat → ClassId} {base b : Nat} {M : zHp} {N k : Nat} {q : Nat × va_E} (h : (zW aC base b M N)[k]? = some q) : k < N ∧ q = (base + k, zE aC base b (M (k + 1))) := by
  have hk : k < N := by
    have := (List.getElem?_eq_some_iff.mp h).1
    rwa [zW_len] at this
  rw [zW_get hk] at h
  exact ⟨hk, (Option.some.inj h).symm⟩
theorem zW_set {aC : Nat → ClassId} {base b : Nat} {M : zHp} {N k : Nat} (c : zAC) (h : k < N) : (zW aC base b M N).set k (base + k, zE aC base b c) = zW aC base b (va_up M (k + 1) c) N := by
  apply List.ext_getElem?
  intro j
  rw [List.getElem?_set]
  by_cases hj : k = j
  · subst hj
    rw [if_pos rfl, if_pos (by rw [zW_len]; exact h), zW_get h]
    simp [va_up]
  · rw [if_neg hj]
    by_cases h2 : j < N
    · rw [zW_get h2, zW_get h2]
      have : ¬ j + 1 = k + 1 := by omega
      unfold va_up
      rw [if_neg this]
    · rw [List.getElem?_eq_none (by rw [zW_len]; omega), List.getElem?_eq_none (by rw [zW_len]; omega)]
theorem zW_push {aC : Nat → ClassId} {base b : Nat} {M : zHp} {N : Nat} (c : zAC) : zW aC base b M N ++ [(base + N, zE aC base b c)] = zW aC base b (va_up M (N + 1) c) (N + 1) := by
  apply List.ext_getElem?
  intro j
  by_cases h : j < N
  · rw [List.getElem?_append_left (by rw [zW_len]; exact h), zW_get h, zW_get (by omega)]
    have : ¬ j + 1 = N + 1 := by omega
    unfold va_up
    rw [if_neg this]
  · rw [List.getElem?_append_right (by rw [zW_len]; omega), zW_len]
    by_cases h2 : j = N
    · subst h2
      rw [zW_get (by omega)]
      simp [va_up]
    · rw [List.getElem?_eq_none (by simp; omega), List.getElem?_eq_none (by rw [zW_len]; omega)]
theorem zW_D (aC : Nat → ClassId) (base b : Nat) (M : zHp) (N : Nat) : va_D (fun q => base ≤ q) (zW aC base b M N) := by
  refine ⟨fun i j p q hi hj e => ?_, fun k q h => ?_⟩
  · obtain ⟨-, rfl⟩ := zW_lt hi
    obtain ⟨-, rfl⟩ := zW_lt hj
    have e : base + i = base + j := e
    omega
  · obtain ⟨-, rfl⟩ := zW_lt h
    exact Nat.le_add_right base k
/-- the heap's size is known: from below by the cells, from above by what was made -/
theorem zsize {p : Program} {l : Launch} {e : Env} {R : Room} {s : State} {m : MethodId} {args : Array Value} {below : List Frame} {meth : Method} {c : Code} {H : Heap} {locs : List Loc} {slots : Nat} {Q : State → Prop} {g : JFrame} {D : va_G} {aC : Nat → ClassId} {base b L : Nat} {xs : Nat → Int32} {M : zHp} {N n0 : Nat}
    (hs : s.heap.size = base + n0) (hn : n0 ≤ N) (hw : zWd D aC base b L xs M N s H locs) (k : H.size = base + N → W p l e R s m args below meth c H locs (N - n0) slots Q g) : W p l e R s m args below meth c H locs (N - n0) slots Q g := by
  intro T hT X
  refine k ?_ T hT X
  have h1 := X.heapSize
  rw [hT, hs] at h1
  have h2 : base + N ≤ H.size := by
    rcases Nat.eq_zero_or_pos N with h | h
    · have := hw.2.1.1
      omega
    · have h3 := (hw.1 (N - 1) _ (zW_get (by omega))).lt
      have h3 : base + (N - 1) < H.size := h3
      omega
  omega
-- simple instructions
theorem zG_simple {d : Nat} {md : zM} {pc pc' : Nat} {ls st st' : List Value} {M : zHp} {N S : Nat} {f : zF}
    (h : ∀ (p : Program) (l : Launch) (e : Env) (R : Room) (s : State) (m : MethodId) (args : Array Value) (below : List Frame) (meth : Method) (c : Code) (H : Heap) (locs : List Loc) (cells slots : Nat) (Q : State → Prop) (lsA : Array Slot) (base b : Nat), p.tables.exec = Jvm.exec → c.code = md.2.1 → s.vm.findClass md.1.cls = some m.cls → (∀ w ∈ zgt, w.before args s = true) → zL base b md.2.2.1 ls lsA →
      W p l e R s m args below meth c H locs cells slots Q (F0 m pc' lsA (st'.map (zV base b))) → W p l e R s m args below meth c H locs cells slots Q (F0 m pc lsA (st.map (zV base b))))
    (k : zGo d md pc' (ls, st', M, N, S) f) : zGo d md pc (ls, st, M, N, S) f :=
  ⟨k.1, k.2.1, fun p l e R s m args below meth c D aC base b L xs n0 s0 F hx hn hs H locs lsA hw hl => h p l e R s m args below meth c H locs _ _ _ lsA base b hx.1 hx.2.1 hx.2.2.2.1 hx.2.2.2.2.1 hl (k.2.2 p l e R s m args below meth c D aC base b L xs n0 s0 F hx hn hs H locs lsA hw hl)⟩
