/-! what each instruction asks, as equations -/
def zN (d : Nat) (md : zM) (f : zF) (is : List zI) : Option zR → Prop
  | none => False
  | some (.inl k) => zB d md f is k
  | some (.inr (.inl (t, q, k))) => if t = true then zGo d md q k f else zB d md f is k
  | some (.inr (.inr (.inl g))) => g = f
  | some (.inr (.inr (.inr (y, as, k)))) => ∃ d' g, d = d' + 1 ∧ zRuns d' y as k.2.2.1 k.2.2.2.1 k.2.2.2.2 g ∧ zB d md f is (k.1, g.1.toList ++ k.2.1, g.2)
theorem zB_cons (d : Nat) (md : zM) (f : zF) (i : zI) (is : List zI) (c : zC) : zB d md f (i :: is) c = zN d md f is (i c) := by
  conv => lhs; unfold zB
  cases i c with
  | none => rfl
  | some r =>
    match r with
    | .inl k => rfl
    | .inr (.inl (t, q, k)) => rfl
    | .inr (.inr (.inl g)) => rfl
    | .inr (.inr (.inr (y, as, k))) => rfl
section EV
variable {d : Nat} {md : zM} {f : zF} {is : List zI} {ls st : List Value} {h : zHp × Nat × Nat} {M : zHp} {n : Nat × Nat}
theorem e_const (v : Int32) : zB d md f (i_const v :: is) (ls, st, h) = zB d md f is (ls, .int v :: st, h) := rfl
theorem e_lconst (v : Int64) : zB d md f (i_lconst v :: is) (ls, st, h) = zB d md f is (ls, .long v :: st, h) := rfl
theorem e_iload (i : Nat) : zB d md f (i_iload i :: is) (ls, st, h) = match ls[i]? with
    | some (.int x) => zB d md f is (ls, .int x :: st, h)
    | _ => False := by
  rw [zB_cons]
  unfold i_iload
  dsimp only
  generalize ls[i]? = o
  cases o with
  | none => rfl
  | some v => cases v <;> rfl
theorem e_aload (i : Nat) : zB d md f (i_aload i :: is) (ls, st, h) = match ls[i]? with
    | some (.ref x) => zB d md f is (ls, .ref x :: st, h)
    | _ => False := by
  rw [zB_cons]
  unfold i_aload
  dsimp only
  generalize ls[i]? = o
  cases o with
  | none => rfl
  | some v => cases v <;> rfl
theorem e_lload (i : Nat) : zB d md f (i_lload i :: is) (ls, st, h) = match ls[i]? with
    | some (.long x) => zB d md f is (ls, .long x :: st, h)
    | _ => False := by
  rw [zB_cons]
  unfold i_lload
  dsimp only
  generalize ls[i]? = o
  cases o with
  | none => rfl
  | some v => cases v <;> rfl
theorem e_istore (i : Nat) (x : Int32) : zB d md f (i_istore i :: is) (ls, .int x :: st, h) = match zset ls i (.int x) with
    | some l => zB d md f is (l, st, h)
    | none => False := by
  rw [zB_cons]
  unfold i_istore
  dsimp only
  cases zset ls i (.int x) <;> rfl
theorem e_astore (i : Nat) (x : Nat) : zB d md f (i_astore i :: is) (ls, .ref x :: st, h) = match zset ls i (.ref x) with
    | some l => zB d md f is (l, st, h)
    | none => False := by
  rw [zB_cons]
  unfold i_astore
  dsimp only
  cases zset ls i (.ref x) <;> rfl
theorem e_lstore (i : Nat) (x : Int64) : zB d md f (i_lstore i :: is) (ls, .long x :: st, h) = match zset ls i (.long x) with
    | some l => if i + 1 < ls.length then zB d md f is (l.set (i + 1) (.retAddr 1), st, h) else False
    | none => False := by
  rw [zB_cons]
  unfold i_lstore
  dsimp only
  cases zset ls i (.long x) with
  | none => rfl
  | some l =>
    rw [Option.bind_some]
    dsimp only
    by_cases hi : i + 1 < ls.length
    · rw [if_pos hi, if_pos hi]
      rfl
    · rw [if_neg hi, if_neg hi]
      rfl
theorem e_iinc (i : Nat) (v : Int32) : zB d md f (i_iinc i v :: is) (ls, st, h) = match ls[i]? with
    | some (.int x) => (match zset ls i (.int (x + v)) with
      | some l => zB d md f is (l, st, h)
      | none => False)
    | _ => False := by
  rw [zB_cons]
  unfold i_iinc
  dsimp only
  cases ho : ls[i]? with
  | none => rfl
  | some w =>
    cases w with
    | int x =>
      dsimp only
      cases zset ls i (.int (x + v)) <;> rfl
    | _ => rfl
theorem e_bin (o : Int32 → Int32 → Int32) (x y : Int32) : zB d md f (i_bin o :: is) (ls, .int y :: .int x :: st, h) = zB d md f is (ls, .int (o x y) :: st, h) := rfl
theorem e_un (o : Int32 → Int32) (x : Int32) : zB d md f (i_un o :: is) (ls, .int x :: st, h) = zB d md f is (ls, .int (o x) :: st, h) := rfl
theorem e_div (o : Int32 → Int32 → Int32) (x y : Int32) : zB d md f (i_div o :: is) (ls, .int y :: .int x :: st, h) = if y = 0 then False else zB d md f is (ls, .int (o x y) :: st, h) := by
  rw [zB_cons]
  unfold i_div
  dsimp only
  by_cases hy : y = 0
  · rw [if_pos hy, if_pos hy]
    rfl
  · rw [if_neg hy, if_neg hy]
    rfl
theorem e_mm (o : Int32 → Int32 → Int32) (x y : Int32) : zB d md f (i_mm o :: is) (ls, .int y :: .int x :: st, h) = if zsm st = true then zB d md f is (ls, .int (o x y) :: st, h) else False := by
  rw [zB_cons]
  unfold i_mm
  dsimp only
  by_cases hy : zsm st = true
  · rw [if_pos hy, if_pos hy]
    rfl
  · rw [if_neg hy, if_neg hy]
    rfl
theorem e_ladd (x y : Int64) : zB d md f (i_ladd :: is) (ls, .long y :: .long x :: st, h) = zB d md f is (ls, .long (x + y) :: st, h) := rfl
theorem e_lcmp (x y : Int64) : zB d md f (i_lcmp :: is) (ls, .long y :: .long x :: st, h) = zB d md f is (ls, .int (lg_cmp x y) :: st, h) := rfl
theorem e_dupi (x : Int32) : zB d md f (i_dup :: is) (ls, .int x :: st, h) = zB d md f is (ls, .int x :: .int x :: st, h) := rfl
theorem e_dupr (x : Nat) : zB d md f (i_dup :: is) (ls, .ref x :: st, h) = zB d md f is (ls, .ref x :: .ref x :: st, h) := rfl
theorem e_dup2 (x : Int32) (a : Nat) : zB d md f (i_dup2 :: is) (ls, .int x :: .ref a :: st, h) = zB d md f is (ls, .int x :: .ref a :: .int x :: .ref a :: st, h) := rfl
theorem e_popi (x : Int32) : zB d md f (i_pop :: is) (ls, .int x :: st, h) = zB d md f is (ls, st, h) := rfl
theorem e_goto (t : Nat) (c : zC) : zB d md f (i_goto t :: is) c = zGo d md t c f := rfl
theorem e_if (o : Int32 → Bool) (t : Nat) (x : Int32) : zB d md f (i_if o t :: is) (ls, .int x :: st, h) = if o x = true then zGo d md t (ls, st, h) f else zB d md f is (ls, st, h) := rfl
theorem e_icmp (o : Int32 → Int32 → Bool) (t : Nat) (x y : Int32) : zB d md f (i_icmp o t :: is) (ls, .int y :: .int x :: st, h) = if o x y = true then zGo d md t (ls, st, h) f else zB d md f is (ls, st, h) := rfl
theorem e_sw (ps : List (Int32 × Nat)) (t : Nat) (x : Int32) : zB d md f (i_sw ps t :: is) (ls, .int x :: st, h) = zGo d md (zsw ps t x) (ls, st, h) f := rfl
theorem e_ret (x : Int32) : zB d md f (i_ret :: is) (ls, [.int x], h) = ((some (.int x), h) = f) := rfl
theorem e_zret (x : Int32) : zB d md f (i_zret :: is) (ls, [.int x], h) = if x = 0 ∨ x = 1 then ((some (.int x), h) = f) else False := by
  rw [zB_cons]
  unfold i_zret
  dsimp only
  by_cases hy : x = 0 ∨ x = 1
  · rw [if_pos hy, if_pos hy]
    rfl
  · rw [if_neg hy, if_neg hy]
    rfl
theorem e_zret0 : zB d md f (i_zret :: is) (ls, [.int 0], h) = ((some (.int 0), h) = f) := rfl
theorem e_zret1 : zB d md f (i_zret :: is) (ls, [.int 1], h) = ((some (.int 1), h) = f) := rfl
theorem e_lret (x : Int64) : zB d md f (i_lret :: is) (ls, [.long x], h) = ((some (.long x), h) = f) := rfl
theorem e_vret : zB d md f (i_vret :: is) (ls, [], h) = ((none, h) = f) := rfl
theorem e_getf (c0 k a : Nat) : zB d md f (i_getf c0 k :: is) (ls, .ref a :: st, M, n) = match M a with
    | .inr (ci, fs) => if zkin ci c0 = true then (match fs[k]? with
      | some v => zB d md f is (ls, v :: st, M, n)
      | none => False) else False
    | _ => False := by
  rw [zB_cons]
  unfold i_getf
  dsimp only
  cases hM : M a with
  | inl q => rfl
  | inr q =>
    obtain ⟨ci, fs⟩ := q
    dsimp only
    by_cases hk : zkin ci c0 = true
    · rw [if_pos hk, if_pos hk]
      cases fs[k]? <;> rfl
    · rw [if_neg hk, if_neg hk]
      rfl
theorem e_putf (c0 k t a : Nat) (v : Value) : zB d md f (i_putf c0 k t :: is) (ls, v :: .ref a :: st, M, n) = match M a with
    | .inr (ci, fs) => if zkin ci c0 = true ∧ zty t v = true ∧ k < fs.length then zB d md f is (ls, st, va_up M a (.inr (ci, fs.set k v)), n) else False
    | _ => False := by
  rw [zB_cons]
  unfold i_putf
  dsimp only
  cases hM : M a with
  | inl q => rfl
  | inr q =>
    obtain ⟨ci, fs⟩ := q
    dsimp only
    by_cases hk : zkin ci c0 = true ∧ zty t v = true ∧ k < fs.length
    · rw [if_pos hk, if_pos hk]
      rfl
    · rw [if_neg hk, if_neg hk]
      rfl
theorem e_iald (i : Int32) (a : Nat) : zB d md f (i_iald :: is) (ls, .int i :: .ref a :: st, M, n) = match M a with
    | .inl (t, w, .inl g) => if t = 0 then (match zix i w with
      | some j => zB d md f is (ls, .int (g j) :: st, M, n)
      | none => False) else False
    | _ => False := by
  rw [zB_cons]
  unfold i_iald
  dsimp only
  match hM : M a with
  | .inl (t, w, .inl g) =>
    dsimp only
    by_cases ht : t = 0
    · rw [if_pos ht, if_pos ht]
      cases zix i w <;> rfl
    · rw [if_neg ht, if_neg ht]
      rfl
  | .inl (t, w, .inr g) => rfl
  | .inr q => rfl
theorem e_bald (i : Int32) (a : Nat) : zB d md f (i_bald :: is) (ls, .int i :: .ref a :: st, M, n) = match M a with
    | .inl (t, w, .inl g) => if t = 1 ∨ t = 2 then (match zix i w with
      | some j => zB d md f is (ls, .int (g j) :: st, M, n)
      | none => False) else False
    | _ => False := by
  rw [zB_cons]
  unfold i_bald
  dsimp only
  match hM : M a with
  | .inl (t, w, .inl g) =>
    dsimp only
    by_cases ht : t = 1 ∨ t = 2
    · rw [if_pos ht, if_pos ht]
      cases zix i w <;> rfl
    · rw [if_neg ht, if_neg ht]
      rfl
  | .inl (t, w, .inr g) => rfl
  | .inr q => rfl
theorem e_aald (i : Int32) (a : Nat) : zB d md f (i_aald :: is) (ls, .int i :: .ref a :: st, M, n) = match M a with
    | .inl (t, w, .inr g) => if 3 ≤ t ∧ t ≤ 5 then (match zix i w with
      | some j => zB d md f is (ls, zrv (g j) :: st, M, n)
      | none => False) else False
    | _ => False := by
  rw [zB_cons]
  unfold i_aald
  dsimp only
  match hM : M a with
  | .inl (t, w, .inr g) =>
    dsimp only
    by_cases ht : 3 ≤ t ∧ t ≤ 5
    · rw [if_pos ht, if_pos ht]
      cases zix i w <;> rfl
    · rw [if_neg ht, if_neg ht]
      rfl
  | .inl (t, w, .inl g) => rfl
  | .inr q => rfl
theorem e_alen (a : Nat) : zB d md f (i_alen :: is) (ls, .ref a :: st, M, n) = match M a with
    | .inl (t, w, _) => if t ≤ 5 then zB d md f is (ls, .int (nI w) :: st, M, n) else False
    | _ => False := by
  rw [zB_cons]
  unfold i_alen
  dsimp only
  match hM : M a with
  | .inl (t, w, g) =>
    dsimp only
    by_cases ht : t ≤ 5
    · rw [if_pos ht, if_pos ht]
      rfl
    · rw [if_neg ht, if_neg ht]
      rfl
  | .inr q => rfl
theorem e_iast (x i : Int32) (a : Nat) : zB d md f (i_iast :: is) (ls, .int x :: .int i :: .ref a :: st, M, n) = match M a with
    | .inl (t, w, .inl g) => if t = 0 ∧ ¬ a = 0 then (match zix i w with
      | some j => zB d md f is (ls, st, va_up M a (.inl (t, w, .inl (upd g j x))), n)
      | none => False) else False
    | _ => False := by
  rw [zB_cons]
  unfold i_iast
  dsimp only
  match hM : M a with
  | .inl (t, w, .inl g) =>
    dsimp only
    by_cases ht : t = 0 ∧ ¬ a = 0
    · rw [if_pos ht, if_pos ht]
      cases zix i w <;> rfl
    · rw [if_neg ht, if_neg ht]
      rfl
  | .inl (t, w, .inr g) => rfl
  | .inr q => rfl
theorem e_bast (x i : Int32) (a : Nat) : zB d md f (i_bast :: is) (ls, .int x :: .int i :: .ref a :: st, M, n) = match M a with
    | .inl (t, w, .inl g) => if t = 1 then (match zix i w with
      | some j => zB d md f is (ls, st, va_up M a (.inl (1, w, .inl (upd g j x.toInt8.toInt32))), n)
      | none => False) else if t = 2 then (match zix i w with
      | some j => zB d md f is (ls, st, va_up M a (.inl (2, w, .inl (upd g j (x &&& 1)))), n)
      | none => False) else False
    | _ => False := by
  rw [zB_cons]
  unfold i_bast
  dsimp only
  match hM : M a with
  | .inl (t, w, .inl g) =>
    dsimp only
    by_cases ht : t = 1
    · rw [if_pos ht, if_pos ht]
      cases zix i w <;> rfl
    · rw [if_neg ht, if_neg ht]
      by_cases ht2 : t = 2
      · rw [if_pos ht2, if_pos ht2]
        cases zix i w <;> rfl
      · rw [if_neg ht2, if_neg ht2]
        rfl
  | .inl (t, w, .inr g) => rfl
  | .inr q => rfl
theorem e_aast (v : Nat) (i : Int32) (a : Nat) : zB d md f (i_aast :: is) (ls, .ref v :: .int i :: .ref a :: st, M, n) = match M a, M v with
    | .inl (t, w, .inr g), .inr (ci, _) => if zarr t ci = true then (match zix i w with
      | some j => zB d md f is (ls, st, va_up M a (.inl (t, w, .inr (va_up g j (some v)))), n)
      | none => False) else False
    | _, _ => False := by
  rw [zB_cons]
  unfold i_aast
  dsimp only
  match hM : M a, hV : M v with
  | .inl (t, w, .inr g), .inr (ci, fs) =>
    dsimp only
    by_cases ht : zarr t ci = true
    · rw [if_pos ht, if_pos ht]
      cases zix i w <;> rfl
    · rw [if_neg ht, if_neg ht]
      rfl
  | .inl (t, w, .inr g), .inl q => rfl
  | .inl (t, w, .inl g), .inl q => rfl
  | .inl (t, w, .inl g), .inr q => rfl
  | .inr p, .inl q => rfl
  | .inr p, .inr q => rfl
theorem e_acopy (k dp sp : Int32) (a a0 : Nat) : zB d md f (i_acopy :: is) (ls, .int k :: .int dp :: .ref a :: .int sp :: .ref a0 :: st, M, n) = match M a0, M a with
    | .inl (t0, n0, .inl f0), .inl (t1, n1, .inl g0) => if t0 = 0 ∧ t1 = 0 ∧ ¬ a = 0 ∧ ¬ a0 = 0 ∧ ¬ k < 0 ∧ ¬ sp < 0 ∧ ¬ dp < 0 ∧ sp.toNatClampNeg + k.toNatClampNeg ≤ n0 ∧ dp.toNatClampNeg + k.toNatClampNeg ≤ n1 ∧ zsm st = true then zB d md f is (ls, st, va_up M a (.inl (0, n1, .inl (va_cpy f0 g0 sp.toNatClampNeg dp.toNatClampNeg k.toNatClampNeg))), n) else False
    | _, _ => False := by
  rw [zB_cons]
  unfold i_acopy
  dsimp only
  match hM : M a0, hV : M a with
  | .inl (t0, n0, .inl f0), .inl (t1, n1, .inl g0) =>
    dsimp only
    by_cases hc : t0 = 0 ∧ t1 = 0 ∧ ¬ a = 0 ∧ ¬ a0 = 0 ∧ ¬ k < 0 ∧ ¬ sp < 0 ∧ ¬ dp < 0 ∧ sp.toNatClampNeg + k.toNatClampNeg ≤ n0 ∧ dp.toNatClampNeg + k.toNatClampNeg ≤ n1 ∧ zsm st = true
    · rw [if_pos hc, if_pos hc]
      rfl
    · rw [if_neg hc, if_neg hc]
      rfl
  | .inl (t0, n0, .inl f0), .inl (t1, n1, .inr g0) => rfl
  | .inl (t0, n0, .inr f0), .inl q => rfl
  | .inl (t0, n0, .inl f0), .inr q => rfl
  | .inl (t0, n0, .inr f0), .inr q => rfl
  | .inr p, .inl q => rfl
  | .inr p, .inr q => rfl
theorem e_callS (y : zM) (k : Nat) (N S : Nat) : zB (d + 1) md f (i_callS y k :: is) (ls, st, M, N, S) = match zpop k st with
    | some (as, st') => if zsm st' = true then (∃ g, zRuns d y as M N S g ∧ zB (d + 1) md f is (ls, g.1.toList ++ st', g.2)) else False
    | none => False := by
  rw [zB_cons]
  unfold i_callS
  dsimp only
  cases hp : zpop k st with
  | none => rfl
  | some q =>
    obtain ⟨as, st'⟩ := q
    dsimp only
    by_cases hs : zsm st' = true
    · rw [if_pos hs, if_pos hs]
      dsimp only [zN]
      apply propext
      constructor
      · rintro ⟨d', g, e, h1, h2⟩
        cases e
        exact ⟨g, h1, h2⟩
      · rintro ⟨g, h1, h2⟩
        exact ⟨d, g, rfl, h1, h2⟩
    · rw [if_neg hs, if_neg hs]
      rfl
theorem e_callI (y : zM) (k : Nat) (N S : Nat) : zB (d + 1) md f (i_callI y k :: is) (ls, st, M, N, S) = match zpop (k + 1) st with
    | some (.ref a :: as, st') => if zsm st' = true then (∃ g, zRuns d y (.ref a :: as) M N S g ∧ zB (d + 1) md f is (ls, g.1.toList ++ st', g.2)) else False
    | _ => False := by
  rw [zB_cons]
  unfold i_callI
  dsimp only
  match hp : zpop (k + 1) st with
  | none => rfl
  | some ([], st') => rfl
  | some (.int x :: as, st') => rfl
  | some (.long x :: as, st') => rfl
  | some (.float x :: as, st') => rfl
  | some (.double x :: as, st') => rfl
  | some (.null :: as, st') => rfl
  | some (.retAddr x :: as, st') => rfl
  | some (.ref a :: as, st') =>
    dsimp only
    by_cases hs : zsm st' = true
    · rw [if_pos hs, if_pos hs]
      dsimp only [zN]
      apply propext
      constructor
      · rintro ⟨d', g, e, h1, h2⟩
        cases e
        exact ⟨g, h1, h2⟩
      · rintro ⟨g, h1, h2⟩
        exact ⟨d, g, rfl, h1, h2⟩
    · rw [if_neg hs, if_neg hs]
      rfl
theorem e_callV (tab : Nat → Option zM) (k : Nat) (N S : Nat) : zB (d + 1) md f (i_callV tab k :: is) (ls, st, M, N, S) = match zpop (k + 1) st with
    | some (.ref a :: as, st') => (match M a with
      | .inr (ci, _) => (match tab ci with
        | some y => if zsm st' = true then (∃ g, zRuns d y (.ref a :: as) M N S g ∧ zB (d + 1) md f is (ls, g.1.toList ++ st', g.2)) else False
        | none => False)
      | _ => False)
    | _ => False := by
  rw [zB_cons]
  unfold i_callV
  dsimp only
  match hp : zpop (k + 1) st with
  | none => rfl
  | some ([], st') => rfl
  | some (.int x :: as, st') => rfl
  | some (.long x :: as, st') => rfl
  | some (.float x :: as, st') => rfl
  | some (.double x :: as, st') => rfl
  | some (.null :: as, st') => rfl
  | some (.retAddr x :: as, st') => rfl
  | some (.ref a :: as, st') =>
    dsimp only
    match hM : M a with
    | .inl q => rfl
    | .inr (ci, fs) =>
      dsimp only
      cases ht : tab ci with
      | none => rfl
      | some y =>
        dsimp only
        by_cases hs : zsm st' = true
        · rw [if_pos hs, if_pos hs]
          dsimp only [zN]
          apply propext
          constructor
          · rintro ⟨d', g, e, h1, h2⟩
            cases e
            exact ⟨g, h1, h2⟩
          · rintro ⟨g, h1, h2⟩
            exact ⟨d, g, rfl, h1, h2⟩
        · rw [if_neg hs, if_neg hs]
          rfl
theorem e_obj (a : Nat) : zB d md f (i_obj :: is) (ls, .ref a :: st, h) = if zsm st = true then zB d md f is (ls, st, h) else False := by
  rw [zB_cons]
  unfold i_obj
  dsimp only
  by_cases hs : zsm st = true
  · rw [if_pos hs, if_pos hs]
    rfl
  · rw [if_neg hs, if_neg hs]
    rfl
end EV

theorem zg0 {a0 : Value} {l : List Value} : (a0 :: l)[0]? = some a0 := rfl
theorem zg1 {a0 a1 : Value} {l : List Value} : (a0 :: a1 :: l)[1]? = some a1 := rfl
theorem zg2 {a0 a1 a2 : Value} {l : List Value} : (a0 :: a1 :: a2 :: l)[2]? = some a2 := rfl
theorem zg3 {a0 a1 a2 a3 : Value} {l : List Value} : (a0 :: a1 :: a2 :: a3 :: l)[3]? = some a3 := rfl
theorem zg4 {a0 a1 a2 a3 a4 : Value} {l : List Value} : (a0 :: a1 :: a2 :: a3 :: a4 :: l)[4]? = some a4 := rfl
theorem zg5 {a0 a1 a2 a3 a4 a5 : Value} {l : List Value} : (a0 :: a1 :: a2 :: a3 :: a4 :: a5 :: l)[5]? = some a5 := rfl
theorem zg6 {a0 a1 a2 a3 a4 a5 a6 : Value} {l : List Value} : (a0 :: a1 :: a2 :: a3 :: a4 :: a5 :: a6 :: l)[6]? = some a6 := rfl
theorem zg7 {a0 a1 a2 a3 a4 a5 a6 a7 : Value} {l : List Value} : (a0 :: a1 :: a2 :: a3 :: a4 :: a5 :: a6 :: a7 :: l)[7]? = some a7 := rfl
theorem zg8 {a0 a1 a2 a3 a4 a5 a6 a7 a8 : Value} {l : List Value} : (a0 :: a1 :: a2 :: a3 :: a4 :: a5 :: a6 :: a7 :: a8 :: l)[8]? = some a8 := rfl
theorem zg9 {a0 a1 a2 a3 a4 a5 a6 a7 a8 a9 : Value} {l : List Value} : (a0 :: a1 :: a2 :: a3 :: a4 :: a5 :: a6 :: a7 :: a8 :: a9 :: l)[9]? = some a9 := rfl
theorem zg10 {a0 a1 a2 a3 a4 a5 a6 a7 a8 a9 a10 : Value} {l : List Value} : (a0 :: a1 :: a2 :: a3 :: a4 :: a5 :: a6 :: a7 :: a8 :: a9 :: a10 :: l)[10]? = some a10 := rfl
theorem zg11 {a0 a1 a2 a3 a4 a5 a6 a7 a8 a9 a10 a11 : Value} {l : List Value} : (a0 :: a1 :: a2 :: a3 :: a4 :: a5 :: a6 :: a7 :: a8 :: a9 :: a10 :: a11 :: l)[11]? = some a11 := rfl
theorem zg12 {a0 a1 a2 a3 a4 a5 a6 a7 a8 a9 a10 a11 a12 : Value} {l : List Value} : (a0 :: a1 :: a2 :: a3 :: a4 :: a5 :: a6 :: a7 :: a8 :: a9 :: a10 :: a11 :: a12 :: l)[12]? = some a12 := rfl
theorem zg13 {a0 a1 a2 a3 a4 a5 a6 a7 a8 a9 a10 a11 a12 a13 : Value} {l : List Value} : (a0 :: a1 :: a2 :: a3 :: a4 :: a5 :: a6 :: a7 :: a8 :: a9 :: a10 :: a11 :: a12 :: a13 :: l)[13]? = some a13 := rfl
theorem zg14 {a0 a1 a2 a3 a4 a5 a6 a7 a8 a9 a10 a11 a12 a13 a14 : Value} {l : List Value} : (a0 :: a1 :: a2 :: a3 :: a4 :: a5 :: a6 :: a7 :: a8 :: a9 :: a10 :: a11 :: a12 :: a13 :: a14 :: l)[14]? = some a14 := rfl
theorem zg15 {a0 a1 a2 a3 a4 a5 a6 a7 a8 a9 a10 a11 a12 a13 a14 a15 : Value} {l : List Value} : (a0 :: a1 :: a2 :: a3 :: a4 :: a5 :: a6 :: a7 :: a8 :: a9 :: a10 :: a11 :: a12 :: a13 :: a14 :: a15 :: l)[15]? = some a15 := rfl
theorem zg16 {a0 a1 a2 a3 a4 a5 a6 a7 a8 a9 a10 a11 a12 a13 a14 a15 a16 : Value} {l : List Value} : (a0 :: a1 :: a2 :: a3 :: a4 :: a5 :: a6 :: a7 :: a8 :: a9 :: a10 :: a11 :: a12 :: a13 :: a14 :: a15 :: a16 :: l)[16]? = some a16 := rfl
theorem zg17 {a0 a1 a2 a3 a4 a5 a6 a7 a8 a9 a10 a11 a12 a13 a14 a15 a16 a17 : Value} {l : List Value} : (a0 :: a1 :: a2 :: a3 :: a4 :: a5 :: a6 :: a7 :: a8 :: a9 :: a10 :: a11 :: a12 :: a13 :: a14 :: a15 :: a16 :: a17 :: l)[17]? = some a17 := rfl
theorem zg18 {a0 a1 a2 a3 a4 a5 a6 a7 a8 a9 a10 a11 a12 a13 a14 a15 a16 a17 a18 : Value} {l : List Value} : (a0 :: a1 :: a2 :: a3 :: a4 :: a5 :: a6 :: a7 :: a8 :: a9 :: a10 :: a11 :: a12 :: a13 :: a14 :: a15 :: a16 :: a17 :: a18 :: l)[18]? = some a18 := rfl
theorem zg19 {a0 a1 a2 a3 a4 a5 a6 a7 a8 a9 a10 a11 a12 a13 a14 a15 a16 a17 a18 a19 : Value} {l : List Value} : (a0 :: a1 :: a2 :: a3 :: a4 :: a5 :: a6 :: a7 :: a8 :: a9 :: a10 :: a11 :: a12 :: a13 :: a14 :: a15 :: a16 :: a17 :: a18 :: a19 :: l)[19]? = some a19 := rfl
theorem zg20 {a0 a1 a2 a3 a4 a5 a6 a7 a8 a9 a10 a11 a12 a13 a14 a15 a16 a17 a18 a19 a20 : Value} {l : List Value} : (a0 :: a1 :: a2 :: a3 :: a4 :: a5 :: a6 :: a7 :: a8 :: a9 :: a10 :: a11 :: a12 :: a13 :: a14 :: a15 :: a16 :: a17 :: a18 :: a19 :: a20 :: l)[20]? = some a20 := rfl
theorem zg21 {a0 a1 a2 a3 a4 a5 a6 a7 a8 a9 a10 a11 a12 a13 a14 a15 a16 a17 a18 a19 a20 a21 : Value} {l : List Value} : (a0 :: a1 :: a2 :: a3 :: a4 :: a5 :: a6 :: a7 :: a8 :: a9 :: a10 :: a11 :: a12 :: a13 :: a14 :: a15 :: a16 :: a17 :: a18 :: a19 :: a20 :: a21 :: l)[21]? = some a21 := rfl
theorem zg22 {a0 a1 a2 a3 a4 a5 a6 a7 a8 a9 a10 a11 a12 a13 a14 a15 a16 a17 a18 a19 a20 a21 a22 : Value} {l : List Value} : (a0 :: a1 :: a2 :: a3 :: a4 :: a5 :: a6 :: a7 :: a8 :: a9 :: a10 :: a11 :: a12 :: a13 :: a14 :: a15 :: a16 :: a17 :: a18 :: a19 :: a20 :: a21 :: a22 :: l)[22]? = some a22 := rfl
theorem zg23 {a0 a1 a2 a3 a4 a5 a6 a7 a8 a9 a10 a11 a12 a13 a14 a15 a16 a17 a18 a19 a20 a21 a22 a23 : Value} {l : List Value} : (a0 :: a1 :: a2 :: a3 :: a4 :: a5 :: a6 :: a7 :: a8 :: a9 :: a10 :: a11 :: a12 :: a13 :: a14 :: a15 :: a16 :: a17 :: a18 :: a19 :: a20 :: a21 :: a22 :: a23 :: l)[23]? = some a23 := rfl
theorem zt0 {a0 : Value} {l : List Value} {v : Value} : (a0 :: l).set 0 v = v :: l := rfl
theorem zt1 {a0 a1 : Value} {l : List Value} {v : Value} : (a0 :: a1 :: l).set 1 v = a0 :: v :: l := rfl
theorem zt2 {a0 a1 a2 : Value} {l : List Value} {v : Value} : (a0 :: a1 :: a2 :: l).set 2 v = a0 :: a1 :: v :: l := rfl
theorem zt3 {a0 a1 a2 a3 : Value} {l : List Value} {v : Value} : (a0 :: a1 :: a2 :: a3 :: l).set 3 v = a0 :: a1 :: a2 :: v :: l := rfl
theorem zt4 {a0 a1 a2 a3 a4 : Value} {l : List Value} {v : Value} : (a0 :: a1 :: a2 :: a3 :: a4 :: l).set 4 v = a0 :: a1 :: a2 :: a3 :: v :: l := rfl
theorem zt5 {a0 a1 a2 a3 a4 a5 : Value} {l : List Value} {v : Value} : (a0 :: a1 :: a2 :: a3 :: a4 :: a5 :: l).set 5 v = a0 :: a1 :: a2 :: a3 :: a4 :: v :: l := rfl
theorem zt6 {a0 a1 a2 a3 a4 a5 a6 : Value} {l : List Value} {v : Value} : (a0 :: a1 :: a2 :: a3 :: a4 :: a5 :: a6 :: l).set 6 v = a0 :: a1 :: a2 :: a3 :: a4 :: a5 :: v :: l := rfl
theorem zt7 {a0 a1 a2 a3 a4 a5 a6 a7 : Value} {l : List Value} {v : Value} : (a0 :: a1 :: a2 :: a3 :: a4 :: a5 :: a6 :: a7 :: l).set 7 v = a0 :: a1 :: a2 :: a3 :: a4 :: a5 :: a6 :: v :: l := rfl
theorem zt8 {a0 a1 a2 a3 a4 a5 a6 a7 a8 : Value} {l : List Value} {v : Value} : (a0 :: a1 :: a2 :: a3 :: a4 :: a5 :: a6 :: a7 :: a8 :: l).set 8 v = a0 :: a1 :: a2 :: a3 :: a4 :: a5 :: a6 :: a7 :: v :: l := rfl
theorem zt9 {a0 a1 a2 a3 a4 a5 a6 a7 a8 a9 : Value} {l : List Value} {v : Value} : (a0 :: a1 :: a2 :: a3 :: a4 :: a5 :: a6 :: a7 :: a8 :: a9 :: l).set 9 v = a0 :: a1 :: a2 :: a3 :: a4 :: a5 :: a6 :: a7 :: a8 :: v :: l := rfl
theorem zt10 {a0 a1 a2 a3 a4 a5 a6 a7 a8 a9 a10 : Value} {l : List Value} {v : Value} : (a0 :: a1 :: a2 :: a3 :: a4 :: a5 :: a6 :: a7 :: a8 :: a9 :: a10 :: l).set 10 v = a0 :: a1 :: a2 :: a3 :: a4 :: a5 :: a6 :: a7 :: a8 :: a9 :: v :: l := rfl
theorem zt11 {a0 a1 a2 a3 a4 a5 a6 a7 a8 a9 a10 a11 : Value} {l : List Value} {v : Value} : (a0 :: a1 :: a2 :: a3 :: a4 :: a5 :: a6 :: a7 :: a8 :: a9 :: a10 :: a11 :: l).set 11 v = a0 :: a1 :: a2 :: a3 :: a4 :: a5 :: a6 :: a7 :: a8 :: a9 :: a10 :: v :: l := rfl
theorem zt12 {a0 a1 a2 a3 a4 a5 a6 a7 a8 a9 a10 a11 a12 : Value} {l : List Value} {v : Value} : (a0 :: a1 :: a2 :: a3 :: a4 :: a5 :: a6 :: a7 :: a8 :: a9 :: a10 :: a11 :: a12 :: l).set 12 v = a0 :: a1 :: a2 :: a3 :: a4 :: a5 :: a6 :: a7 :: a8 :: a9 :: a10 :: a11 :: v :: l := rfl
theorem zt13 {a0 a1 a2 a3 a4 a5 a6 a7 a8 a9 a10 a11 a12 a13 : Value} {l : List Value} {v : Value} : (a0 :: a1 :: a2 :: a3 :: a4 :: a5 :: a6 :: a7 :: a8 :: a9 :: a10 :: a11 :: a12 :: a13 :: l).set 13 v = a0 :: a1 :: a2 :: a3 :: a4 :: a5 :: a6 :: a7 :: a8 :: a9 :: a10 :: a11 :: a12 :: v :: l := rfl
theorem zt14 {a0 a1 a2 a3 a4 a5 a6 a7 a8 a9 a10 a11 a12 a13 a14 : Value} {l : List Value} {v : Value} : (a0 :: a1 :: a2 :: a3 :: a4 :: a5 :: a6 :: a7 :: a8 :: a9 :: a10 :: a11 :: a12 :: a13 :: a14 :: l).set 14 v = a0 :: a1 :: a2 :: a3 :: a4 :: a5 :: a6 :: a7 :: a8 :: a9 :: a10 :: a11 :: a12 :: a13 :: v :: l := rfl
theorem zt15 {a0 a1 a2 a3 a4 a5 a6 a7 a8 a9 a10 a11 a12 a13 a14 a15 : Value} {l : List Value} {v : Value} : (a0 :: a1 :: a2 :: a3 :: a4 :: a5 :: a6 :: a7 :: a8 :: a9 :: a10 :: a11 :: a12 :: a13 :: a14 :: a15 :: l).set 15 v = a0 :: a1 :: a2 :: a3 :: a4 :: a5 :: a6 :: a7 :: a8 :: a9 :: a10 :: a11 :: a12 :: a13 :: a14 :: v :: l := rfl
theorem zt16 {a0 a1 a2 a3 a4 a5 a6 a7 a8 a9 a10 a11 a12 a13 a14 a15 a16 : Value} {l : List Value} {v : Value} : (a0 :: a1 :: a2 :: a3 :: a4 :: a5 :: a6 :: a7 :: a8 :: a9 :: a10 :: a11 :: a12 :: a13 :: a14 :: a15 :: a16 :: l).set 16 v = a0 :: a1 :: a2 :: a3 :: a4 :: a5 :: a6 :: a7 :: a8 :: a9 :: a10 :: a11 :: a12 :: a13 :: a14 :: a15 :: v :: l := rfl
theorem zt17 {a0 a1 a2 a3 a4 a5 a6 a7 a8 a9 a10 a11 a12 a13 a14 a15 a16 a17 : Value} {l : List Value} {v : Value} : (a0 :: a1 :: a2 :: a3 :: a4 :: a5 :: a6 :: a7 :: a8 :: a9 :: a10 :: a11 :: a12 :: a13 :: a14 :: a15 :: a16 :: a17 :: l).set 17 v = a0 :: a1 :: a2 :: a3 :: a4 :: a5 :: a6 :: a7 :: a8 :: a9 :: a10 :: a11 :: a12 :: a13 :: a14 :: a15 :: a16 :: v :: l := rfl
theorem zt18 {a0 a1 a2 a3 a4 a5 a6 a7 a8 a9 a10 a11 a12 a13 a14 a15 a16 a17 a18 : Value} {l : List Value} {v : Value} : (a0 :: a1 :: a2 :: a3 :: a4 :: a5 :: a6 :: a7 :: a8 :: a9 :: a10 :: a11 :: a12 :: a13 :: a14 :: a15 :: a16 :: a17 :: a18 :: l).set 18 v = a0 :: a1 :: a2 :: a3 :: a4 :: a5 :: a6 :: a7 :: a8 :: a9 :: a10 :: a11 :: a12 :: a13 :: a14 :: a15 :: a16 :: a17 :: v :: l := rfl
theorem zt19 {a0 a1 a2 a3 a4 a5 a6 a7 a8 a9 a10 a11 a12 a13 a14 a15 a16 a17 a18 a19 : Value} {l : List Value} {v : Value} : (a0 :: a1 :: a2 :: a3 :: a4 :: a5 :: a6 :: a7 :: a8 :: a9 :: a10 :: a11 :: a12 :: a13 :: a14 :: a15 :: a16 :: a17 :: a18 :: a19 :: l).set 19 v = a0 :: a1 :: a2 :: a3 :: a4 :: a5 :: a6 :: a7 :: a8 :: a9 :: a10 :: a11 :: a12 :: a13 :: a14 :: a15 :: a16 :: a17 :: a18 :: v :: l := rfl
theorem zt20 {a0 a1 a2 a3 a4 a5 a6 a7 a8 a9 a10 a11 a12 a13 a14 a15 a16 a17 a18 a19 a20 : Value} {l : List Value} {v : Value} : (a0 :: a1 :: a2 :: a3 :: a4 :: a5 :: a6 :: a7 :: a8 :: a9 :: a10 :: a11 :: a12 :: a13 :: a14 :: a15 :: a16 :: a17 :: a18 :: a19 :: a20 :: l).set 20 v = a0 :: a1 :: a2 :: a3 :: a4 :: a5 :: a6 :: a7 :: a8 :: a9 :: a10 :: a11 :: a12 :: a13 :: a14 :: a15 :: a16 :: a17 :: a18 :: a19 :: v :: l := rfl
theorem zt21 {a0 a1 a2 a3 a4 a5 a6 a7 a8 a9 a10 a11 a12 a13 a14 a15 a16 a17 a18 a19 a20 a21 : Value} {l : List Value} {v : Value} : (a0 :: a1 :: a2 :: a3 :: a4 :: a5 :: a6 :: a7 :: a8 :: a9 :: a10 :: a11 :: a12 :: a13 :: a14 :: a15 :: a16 :: a17 :: a18 :: a19 :: a20 :: a21 :: l).set 21 v = a0 :: a1 :: a2 :: a3 :: a4 :: a5 :: a6 :: a7 :: a8 :: a9 :: a10 :: a11 :: a12 :: a13 :: a14 :: a15 :: a16 :: a17 :: a18 :: a19 :: a20 :: v :: l := rfl
theorem zt22 {a0 a1 a2 a3 a4 a5 a6 a7 a8 a9 a10 a11 a12 a13 a14 a15 a16 a17 a18 a19 a20 a21 a22 : Value} {l : List Value} {v : Value} : (a0 :: a1 :: a2 :: a3 :: a4 :: a5 :: a6 :: a7 :: a8 :: a9 :: a10 :: a11 :: a12 :: a13 :: a14 :: a15 :: a16 :: a17 :: a18 :: a19 :: a20 :: a21 :: a22 :: l).set 22 v = a0 :: a1 :: a2 :: a3 :: a4 :: a5 :: a6 :: a7 :: a8 :: a9 :: a10 :: a11 :: a12 :: a13 :: a14 :: a15 :: a16 :: a17 :: a18 :: a19 :: a20 :: a21 :: v :: l := rfl
theorem zt23 {a0 a1 a2 a3 a4 a5 a6 a7 a8 a9 a10 a11 a12 a13 a14 a15 a16 a17 a18 a19 a20 a21 a22 a23 : Value} {l : List Value} {v : Value} : (a0 :: a1 :: a2 :: a3 :: a4 :: a5 :: a6 :: a7 :: a8 :: a9 :: a10 :: a11 :: a12 :: a13 :: a14 :: a15 :: a16 :: a17 :: a18 :: a19 :: a20 :: a21 :: a22 :: a23 :: l).set 23 v = a0 :: a1 :: a2 :: a3 :: a4 :: a5 :: a6 :: a7 :: a8 :: a9 :: a10 :: a11 :: a12 :: a13 :: a14 :: a15 :: a16 :: a17 :: a18 :: a19 :: a20 :: a21 :: a22 :: v :: l := rfl
theorem zsi {x : Int32} {l : List Value} {v : Value} : zset (.int x :: l) 0 v = some (v :: l) := rfl
theorem zsr {x : Nat} {l : List Value} {v : Value} : zset (.ref x :: l) 0 v = some (v :: l) := rfl
theorem zsl {x : Int64} {l : List Value} {v : Value} : zset (.long x :: l) 0 v = some (v :: l) := rfl
theorem zsu {l : List Value} {v : Value} : zset (.retAddr 0 :: l) 0 v = some (v :: l) := rfl
theorem zs1 {a : Value} {l : List Value} {v : Value} : zset (a :: l) 1 v = (zset l 0 v).map (fun m => a :: m) := rfl
theorem zs2 {a : Value} {l : List Value} {v : Value} : zset (a :: l) 2 v = (zset l 1 v).map (fun m => a :: m) := rfl
theorem zs3 {a : Value} {l : List Value} {v : Value} : zset (a :: l) 3 v = (zset l 2 v).map (fun m => a :: m) := rfl
theorem zs4 {a : Value} {l : List Value} {v : Value} : zset (a :: l) 4 v = (zset l 3 v).map (fun m => a :: m) := rfl
theorem zs5 {a : Value} {l : List Value} {v : Value} : zset (a :: l) 5 v = (zset l 4 v).map (fun m => a :: m) := rfl
theorem zs6 {a : Value} {l : List Value} {v : Value} : zset (a :: l) 6 v = (zset l 5 v).map (fun m => a :: m) := rfl
theorem zs7 {a : Value} {l : List Value} {v : Value} : zset (a :: l) 7 v = (zset l 6 v).map (fun m => a :: m) := rfl
theorem zs8 {a : Value} {l : List Value} {v : Value} : zset (a :: l) 8 v = (zset l 7 v).map (fun m => a :: m) := rfl
theorem zs9 {a : Value} {l : List Value} {v : Value} : zset (a :: l) 9 v = (zset l 8 v).map (fun m => a :: m) := rfl
theorem zs10 {a : Value} {l : List Value} {v : Value} : zset (a :: l) 10 v = (zset l 9 v).map (fun m => a :: m) := rfl
theorem zs11 {a : Value} {l : List Value} {v : Value} : zset (a :: l) 11 v = (zset l 10 v).map (fun m => a :: m) := rfl
theorem zs12 {a : Value} {l : List Value} {v : Value} : zset (a :: l) 12 v = (zset l 11 v).map (fun m => a :: m) := rfl
theorem zs13 {a : Value} {l : List Value} {v : Value} : zset (a :: l) 13 v = (zset l 12 v).map (fun m => a :: m) := rfl
theorem zp0 {st : List Value} : zpop 0 st = some ([], st) := rfl
theorem zp1 {a0 : Value} {st : List Value} : zpop 1 (a0 :: st) = some ([a0], st) := rfl
theorem zp2 {a0 a1 : Value} {st : List Value} : zpop 2 (a0 :: a1 :: st) = some ([a1, a0], st) := rfl
theorem zp3 {a0 a1 a2 : Value} {st : List Value} : zpop 3 (a0 :: a1 :: a2 :: st) = some ([a2, a1, a0], st) := rfl
theorem zp4 {a0 a1 a2 a3 : Value} {st : List Value} : zpop 4 (a0 :: a1 :: a2 :: a3 :: st) = some ([a3, a2, a1, a0], st) := rfl
theorem zp5 {a0 a1 a2 a3 a4 : Value} {st : List Value} : zpop 5 (a0 :: a1 :: a2 :: a3 :: a4 :: st) = some ([a4, a3, a2, a1, a0], st) := rfl
theorem zp6 {a0 a1 a2 a3 a4 a5 : Value} {st : List Value} : zpop 6 (a0 :: a1 :: a2 :: a3 :: a4 :: a5 :: st) = some ([a5, a4, a3, a2, a1, a0], st) := rfl
theorem zm0 : zsm [] = true := rfl
theorem zm1 {a0 : Value} : zsm [a0] = true := rfl
theorem zm2 {a0 a1 : Value} : zsm [a0, a1] = true := rfl
theorem zm3 {a0 a1 a2 : Value} : zsm [a0, a1, a2] = true := rfl
theorem zm4 {a0 a1 a2 a3 : Value} : zsm [a0, a1, a2, a3] = true := rfl
theorem zty0 {x : Int32} : zty 0 (.int x) = true := rfl
theorem zty2 {x : Int64} : zty 2 (.long x) = true := rfl
theorem zty3 {x : Nat} : zty 3 (.ref x) = true := rfl
theorem zty10 : zty 1 (.int 0) = true := rfl
theorem zty11 : zty 1 (.int 1) = true := rfl
theorem zkin_self (c : Nat) : zkin c c = true := by simp [zkin]
theorem zup_same (M : zHp) (a : Nat) (c : zAC) : va_up M a c a = c := if_pos rfl
theorem zup_ne (M : zHp) (a : Nat) (c : zAC) {b : Nat} (h : ¬ b = a) : va_up M a c b = M b := if_neg h
theorem zix_nI {j k : Nat} (h : j < k) (hk : k < 2 ^ 31) : zix (nI j) k = some j := by
  unfold zix
  rw [if_neg (nI_in h hk), nI_clamp (Nat.lt_trans h hk)]
