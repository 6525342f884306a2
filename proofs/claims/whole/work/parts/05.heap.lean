/-! instructions that read and write the heap -/
def zkin (ci c0 : Nat) : Bool := ci == c0 || (c0 == 3 && (ci == 0 || ci == 1 || ci == 2 || ci == 4 || ci == 7))
def i_getf (c0 k : Nat) : zI := fun c => match c.2.1 with
  | .ref a :: st => match c.2.2.1 a with
    | .inr (ci, fs) => if zkin ci c0 = true then fs[k]?.map fun v => .inl (c.1, v :: st, c.2.2) else none
    | _ => none
  | _ => none
/-- which values a field of that sort takes: 0 int, 1 boolean, 2 long, 3 a reference -/
def zty : Nat → Value → Bool
  | 0, .int _ => true
  | 1, .int x => decide (x = 0 ∨ x = 1)
  | 2, .long _ => true
  | 3, .ref _ => true
  | _, _ => false
def i_putf (c0 k t : Nat) : zI := fun c => match c.2.1 with
  | v :: .ref a :: st => match c.2.2.1 a with
    | .inr (ci, fs) => if zkin ci c0 = true ∧ zty t v = true ∧ k < fs.length then some (.inl (c.1, st, va_up c.2.2.1 a (.inr (ci, fs.set k v)), c.2.2.2)) else none
    | _ => none
  | _ => none
def zix (i : Int32) (n : Nat) : Option Nat := if i < 0 ∨ n ≤ i.toNatClampNeg then none else some i.toNatClampNeg
def i_iald : zI := fun c => match c.2.1 with
  | .int i :: .ref a :: st => match c.2.2.1 a with
    | .inl (t, n, .inl f) => if t = 0 then (zix i n).map fun j => .inl (c.1, .int (f j) :: st, c.2.2) else none
    | _ => none
  | _ => none
def i_bald : zI := fun c => match c.2.1 with
  | .int i :: .ref a :: st => match c.2.2.1 a with
    | .inl (t, n, .inl f) => if t = 1 ∨ t = 2 then (zix i n).map fun j => .inl (c.1, .int (f j) :: st, c.2.2) else none
    | _ => none
  | _ => none
def zrv : Option Nat → Value
  | some k => .ref k
  | none => .null
def i_aald : zI := fun c => match c.2.1 with
  | .int i :: .ref a :: st => match c.2.2.1 a with
    | .inl (t, n, .inr f) => if 3 ≤ t ∧ t ≤ 5 then (zix i n).map fun j => .inl (c.1, zrv (f j) :: st, c.2.2) else none
    | _ => none
  | _ => none
def i_alen : zI := fun c => match c.2.1 with
  | .ref a :: st => match c.2.2.1 a with
    | .inl (t, n, _) => if t ≤ 5 then some (.inl (c.1, .int (nI n) :: st, c.2.2)) else none
    | _ => none
  | _ => none
def i_iast : zI := fun c => match c.2.1 with
  | .int x :: .int i :: .ref a :: st => match c.2.2.1 a with
    | .inl (t, n, .inl f) => if t = 0 ∧ ¬ a = 0 then (zix i n).map fun j => .inl (c.1, st, va_up c.2.2.1 a (.inl (t, n, .inl (upd f j x))), c.2.2.2) else none
    | _ => none
  | _ => none
def i_bast : zI := fun c => match c.2.1 with
  | .int x :: .int i :: .ref a :: st => match c.2.2.1 a with
    | .inl (t, n, .inl f) => if t = 1 then (zix i n).map fun j => .inl (c.1, st, va_up c.2.2.1 a (.inl (1, n, .inl (upd f j x.toInt8.toInt32))), c.2.2.2) else if t = 2 then (zix i n).map fun j => .inl (c.1, st, va_up c.2.2.1 a (.inl (2, n, .inl (upd f j (x &&& 1)))), c.2.2.2) else none
    | _ => none
  | _ => none
def zarr (t ci : Nat) : Bool := (t == 3 && ci == 6) || (t == 4 && ci == 5) || (t == 5 && (ci == 0 || ci == 1 || ci == 2 || ci == 3 || ci == 4 || ci == 7))
def i_aast : zI := fun c => match c.2.1 with
  | .ref v :: .int i :: .ref a :: st => match c.2.2.1 a, c.2.2.1 v with
    | .inl (t, n, .inr f), .inr (ci, _) => if zarr t ci = true then (zix i n).map fun j => .inl (c.1, st, va_up c.2.2.1 a (.inl (t, n, .inr (va_up f j (some v)))), c.2.2.2) else none
    | _, _ => none
  | _ => none
def i_new (ci : Nat) (fs : List Value) : zI := fun c => some (.inl (c.1, .ref (c.2.2.2.1 + 1) :: c.2.1, va_up c.2.2.1 (c.2.2.2.1 + 1) (.inr (ci, fs)), c.2.2.2.1 + 1, c.2.2.2.2 + fs.length))
def i_newa (t : Nat) : zI := fun c => match c.2.1 with
  | .int n :: st => if ¬ n < 0 ∧ n.toNatClampNeg ≤ 100000 then some (.inl (c.1, .ref (c.2.2.2.1 + 1) :: st, va_up c.2.2.1 (c.2.2.2.1 + 1) (.inl (t, n.toNatClampNeg, .inl fun _ => 0)), c.2.2.2.1 + 1, c.2.2.2.2 + n.toNatClampNeg)) else none
  | _ => none
def i_anew (t : Nat) : zI := fun c => match c.2.1 with
  | .int n :: st => if ¬ n < 0 ∧ n.toNatClampNeg ≤ 100000 then some (.inl (c.1, .ref (c.2.2.2.1 + 1) :: st, va_up c.2.2.1 (c.2.2.2.1 + 1) (.inl (t, n.toNatClampNeg, .inr fun _ => none)), c.2.2.2.1 + 1, c.2.2.2.2 + n.toNatClampNeg)) else none
  | _ => none
def zsm : List Value → Bool
  | [] => true
  | [_] => true
  | [_, _] => true
  | [_, _, _] => true
  | [_, _, _, _] => true
  | [a, b, c, d, e] => z1 a && z1 b && z1 c && z1 d && z1 e
  | _ => false
def i_acopy : zI := fun c => match c.2.1 with
  | .int n :: .int dp :: .ref a :: .int sp :: .ref a0 :: st => match c.2.2.1 a0, c.2.2.1 a with
    | .inl (t0, n0, .inl f), .inl (t1, n1, .inl g) => if t0 = 0 ∧ t1 = 0 ∧ ¬ a = 0 ∧ ¬ a0 = 0 ∧ ¬ n < 0 ∧ ¬ sp < 0 ∧ ¬ dp < 0 ∧ sp.toNatClampNeg + n.toNatClampNeg ≤ n0 ∧ dp.toNatClampNeg + n.toNatClampNeg ≤ n1 ∧ zsm st = true then some (.inl (c.1, st, va_up c.2.2.1 a (.inl (0, n1, .inl (va_cpy f g sp.toNatClampNeg dp.toNatClampNeg n.toNatClampNeg))), c.2.2.2)) else none
    | _, _ => none
  | _ => none
theorem zwd_lt {D : va_G} {aC : Nat → ClassId} {base b L : Nat} {xs : Nat → Int32} {M : zHp} {N : Nat} {s : State} {H : Heap} {locs : List Loc} {a : Nat} (hw : zWd D aC base b L xs M N s H locs) (ha : a ≠ 0) (hv : M a ≠ zvoid) : ∃ j, a = j + 1 ∧ j < N ∧ (zW aC base b M N)[j]? = some (base + j, zE aC base b (M (j + 1))) := by
  refine ⟨a - 1, by omega, ?_, ?_⟩
  · rcases Nat.lt_or_ge N a with h | h
    · exact absurd (hw.2.2.2 a h) hv
    · omega
  · refine zW_get ?_
    rcases Nat.lt_or_ge N a with h | h
    · exact absurd (hw.2.2.2 a h) hv
    · omega
theorem zwd_obj {D : va_G} {aC : Nat → ClassId} {base b L : Nat} {xs : Nat → Int32} {M : zHp} {N : Nat} {s : State} {H : Heap} {locs : List Loc} {a ci : Nat} {fs : List Value} (hw : zWd D aC base b L xs M N s H locs) (hm : M a = .inr (ci, fs)) : ∃ j, a = j + 1 ∧ j < N ∧ (zW aC base b M N)[j]? = some (base + j, .inr (ci, fs.map (zV base b))) := by
  obtain ⟨j, rfl, h1, h2⟩ := zwd_lt hw (a := a) (fun h => by subst h; rw [hw.2.2.1] at hm; cases hm) (by rw [hm]; intro h; cases h)
  rw [hm] at h2
  exact ⟨j, rfl, h1, h2⟩
theorem zwd_arr {D : va_G} {aC : Nat → ClassId} {base b L : Nat} {xs : Nat → Int32} {M : zHp} {N : Nat} {s : State} {H : Heap} {locs : List Loc} {a t n : Nat} {r : (Nat → Int32) ⊕ (Nat → Option Nat)} (hw : zWd D aC base b L xs M N s H locs) (hm : M a = .inl (t, n, r)) (ht : t ≠ 9) (ha : a ≠ 0) : ∃ j, a = j + 1 ∧ j < N ∧ (zW aC base b M N)[j]? = some (base + j, .inl (aC t, n, zA base b r)) := by
  obtain ⟨j, rfl, h1, h2⟩ := zwd_lt hw ha (by rw [hm]; intro h; unfold zvoid at h; injection h with h; injection h with h3; exact ht h3)
  rw [hm] at h2
  exact ⟨j, rfl, h1, h2⟩
theorem zkin_ok {ci c0 : Nat} {C0 : String} {T : u_T} {n : Nat} (h : zkin ci c0 = true) (h0 : zCl[c0]? = some (C0, T, n)) : ∃ C, zCl[ci]? = some (C, T, n) := by
  unfold zkin at h
  rw [Bool.or_eq_true] at h
  rcases h with h | h
  · rw [beq_iff_eq] at h
    subst h
    exact ⟨C0, h0⟩
  · simp only [Bool.and_eq_true, Bool.or_eq_true, beq_iff_eq] at h
    obtain ⟨rfl, h⟩ := h
    cases h0
    rcases h with (((rfl | rfl) | rfl) | rfl) | rfl
    · exact ⟨_, rfl⟩
    · exact ⟨_, rfl⟩
    · exact ⟨_, rfl⟩
    · exact ⟨_, rfl⟩
    · exact ⟨_, rfl⟩
theorem zsame {args : Array Value} {s : State} {ref dc nm ds : String} (hts : ∀ w ∈ zgt, w.before args s = true) (h : ref = dc ∨ Cond.sameField ref dc nm ds ∈ zgt) : ∀ x, s.fieldFound? dc nm ds = some x → s.fieldFound? ref nm ds = some x := by
  rcases h with rfl | h
  · exact fun _ h => h
  · exact fun x hx => u_same (hts _ h) x hx
theorem n_getf {md : zM} {pc idx c0 k n : Nat} {C0 ref dc nm ds : String} {T : u_T} {fn : Bool} (h0 : zCl[c0]? = some (C0, T, n)) (hk : k < n) (hT : T k = (dc, nm, ds, fn)) (hl : Cond.fieldLink md.1.cls idx ref nm ds ∈ zgt) (hsm : ref = dc ∨ Cond.sameField ref dc nm ds ∈ zgt) (hd : decode md.2.1 pc = .ok (.getfield idx, 3)) : zS md pc (pc + 3) (i_getf c0 k) := by
  intro d f ⟨ls, st, M, N, S⟩ r h q
  unfold i_getf at h
  dsimp only at h
  split at h
  · rename_i a st
    split at h
    · rename_i ci fs hm
      split at h
      · rename_i hkin
        obtain ⟨v, hv, rfl⟩ := Option.map_eq_some_iff.mp h
        obtain ⟨C, hC⟩ := zkin_ok hkin h0
        have q : zGo d md (pc + 3) (ls, v :: st, M, N, S) f := q
        refine ⟨q.1, q.2.1, fun p l e R s m args below meth c D aC base b L xs n0 s0 F hx hn hs H locs lsA hw hl' => ?_⟩
        obtain ⟨j, rfl, hj, he⟩ := zwd_obj hw hm
        have hb := q.2.2 p l e R s m args below meth c D aC base b L xs n0 s0 F hx hn hs H locs lsA hw hl'
        refine va_get (ref := ref) (C := C) (T := T) (N := n) hx.1 hx.2.1 hx.2.2.2.2.1 (zcls hC).1 hx.2.2.2.1 hx.2.2.2.2.2.2.2.2.1 hw.1 j he hC k hk ?_ ?_ (v := zV base b v) (by rw [List.getElem?_map, hv]; rfl) hd hb
        · rw [hT]; exact hx.2.2.2.2.1 _ hl
        · rw [hT]; exact zsame hx.2.2.2.2.1 hsm
      · cases h
    · cases h
  · cases h
theorem zty_ok {t : Nat} {ty : FieldType} {v : Value} {base b : Nat} (h : zty t v = true) (ht : (t = 0 ∧ ty = .int) ∨ (t = 1 ∧ ty = .boolean) ∨ (t = 2 ∧ ty = .long) ∨ (t = 3 ∧ ((∃ C, ty = .object C) ∨ ∃ e, ty = .array e))) : narrow ty (zV base b v) = zV base b v ∧ fits ty (zV base b v) = true := by
  rcases ht with ⟨rfl, rfl⟩ | ⟨rfl, rfl⟩ | ⟨rfl, rfl⟩ | ⟨rfl, h2⟩
  · cases v <;> first | exact ⟨rfl, rfl⟩ | cases h
  · cases v with
    | int x =>
      have h : x = 0 ∨ x = 1 := by simpa [zty] using h
      rcases h with rfl | rfl
      · exact ⟨rfl, rfl⟩
      · exact ⟨rfl, rfl⟩
    | _ => cases h
  · cases v <;> first | exact ⟨rfl, rfl⟩ | cases h
  · rcases h2 with ⟨C, rfl⟩ | ⟨e, rfl⟩
    · cases v <;> first | exact ⟨rfl, rfl⟩ | cases h
    · cases v <;> first | exact ⟨rfl, rfl⟩ | cases h
theorem zwd_put {D : va_G} {aC : Nat → ClassId} {base b L : Nat} {xs : Nat → Int32} {M : zHp} {N : Nat} {s : State} {H H1 : Heap} {locs locs1 : List Loc} {j : Nat} {c : zAC} (hw : zWd D aC base b L xs M N s H locs) (hj : j < N) (hP : va_P D zCl ((zW aC base b M N).set j (base + j, zE aC base b c)) H1) (hS : va_S (fun q => base ≤ q) s.heap H1 locs1) : zWd D aC base b L xs (va_up M (j + 1) c) N s H1 locs1 := by
  rw [zW_set c hj] at hP
  refine ⟨hP, hS, ?_, fun k hk => ?_⟩
  · unfold va_up
    rw [if_neg (by omega)]
    exact hw.2.2.1
  · unfold va_up
    rw [if_neg (by omega)]
    exact hw.2.2.2 k hk
theorem n_putf {md : zM} {pc idx c0 k n t : Nat} {C0 ref dc nm ds : String} {T : u_T} {fn : Bool} {ty : FieldType} (h0 : zCl[c0]? = some (C0, T, n)) (hk : k < n) (hT : T k = (dc, nm, ds, fn)) (hl : Cond.fieldLink md.1.cls idx ref nm ds ∈ zgt) (hsm : ref = dc ∨ Cond.sameField ref dc nm ds ∈ zgt) (hfn : fn = false ∨ (md.1.name = "<init>" ∧ dc = md.1.cls))
    (hty : parseFieldDescriptor ds = some ty) (ht : (t = 0 ∧ ty = .int) ∨ (t = 1 ∧ ty = .boolean) ∨ (t = 2 ∧ ty = .long) ∨ (t = 3 ∧ ((∃ C, ty = .object C) ∨ ∃ e, ty = .array e))) (hd : decode md.2.1 pc = .ok (.putfield idx, 3)) : zS md pc (pc + 3) (i_putf c0 k t) := by
  intro d f ⟨ls, st, M, N, S⟩ r h q
  unfold i_putf at h
  dsimp only at h
  split at h
  · rename_i v a st
    split at h
    · rename_i ci fs hm
      split at h
      · rename_i hc3
        obtain ⟨hkin, hzt, hlen⟩ := hc3
        cases h
        obtain ⟨C, hC⟩ := zkin_ok hkin h0
        have q : zGo d md (pc + 3) (ls, st, va_up M a (.inr (ci, fs.set k v)), N, S) f := q
        refine ⟨q.1, q.2.1, fun p l e R s m args below meth c D aC base b L xs n0 s0 F hx hn hs H locs lsA hw hl' => ?_⟩
        obtain ⟨j, rfl, hj, he⟩ := zwd_obj hw hm
        obtain ⟨hcin, ⟨tyf, htyf⟩, hnm, -, -⟩ := zcls hC
        obtain ⟨hnar, hfit⟩ := zty_ok (base := base) (b := b) hzt ht
        have hlk : (Cond.fieldLink md.1.cls idx ref (T k).2.1 (T k).2.2.1).before args s = true := by rw [hT]; exact hx.2.2.2.2.1 _ hl
        have hsame : ∀ x, s.fieldFound? (T k).1 (T k).2.1 (T k).2.2.1 = some x → s.fieldFound? ref (T k).2.1 (T k).2.2.1 = some x := by rw [hT]; exact zsame hx.2.2.2.2.1 hsm
        have hgo : ∀ (H1 : Heap) (locs1 : List Loc), va_P D zCl ((zW aC base b M N).set j (base + j, .inr (ci, (fs.map (zV base b)).set k (zV base b v)))) H1 → va_D (fun q => base ≤ q) ((zW aC base b M N).set j (base + j, .inr (ci, (fs.map (zV base b)).set k (zV base b v)))) → va_S (fun q => base ≤ q) s.heap H1 locs1 → W p l e R s m args below meth c H1 locs1 (N - n0) (S - s0) (MQ below (zQ D aC base b L xs f) args s (f.2.2.1 - n0) (f.2.2.2 - s0) (fun q => base ≤ q)) (F0 m (pc + 3) lsA (st.map (zV base b))) := by
          intro H1 locs1 hP1 _ hS1
          refine q.2.2 p l e R s m args below meth c D aC base b L xs n0 s0 F hx hn hs H1 locs1 lsA (zwd_put hw hj (c := .inr (ci, fs.set k v)) ?_ hS1) hl'
          rw [show zE aC base b (.inr (ci, fs.set k v)) = .inr (ci, (fs.map (zV base b)).set k (zV base b v)) by simp [zE, List.map_set]]
          exact hP1
        rcases hfn with rfl | ⟨hi1, hi2⟩
        · exact va_put (ref := ref) (C := C) (T := T) (N := n) hx.1 hx.2.1 hx.2.2.2.2.1 hcin tyf htyf hnm hx.2.2.2.1 hx.2.2.2.2.2.2.2.2.1 hw.1 (zW_D aC base b M N) hw.2.1 j he hC k hk hlk hsame (by rw [hT]) (ty := ty) (by rw [hT]; exact hty) hnar hfit (by simpa using hlen) hd hgo
        · cases fn with
          | false => exact va_put (ref := ref) (C := C) (T := T) (N := n) hx.1 hx.2.1 hx.2.2.2.2.1 hcin tyf htyf hnm hx.2.2.2.1 hx.2.2.2.2.2.2.2.2.1 hw.1 (zW_D aC base b M N) hw.2.1 j he hC k hk hlk hsame (by rw [hT]) (ty := ty) (by rw [hT]; exact hty) hnar hfit (by simpa using hlen) hd hgo
          | true => exact va_putF (ref := ref) (C := C) (T := T) (N := n) hx.1 hx.2.1 hx.2.2.2.2.1 hcin tyf htyf hnm hx.2.2.2.1 hx.2.2.2.2.2.2.2.2.1 hw.1 (zW_D aC base b M N) hw.2.1 j he hC k hk hlk hsame (by rw [hT]) (hx.2.2.2.2.2.2.2.1 hi1) (by rw [hT]; exact hi2) (ty := ty) (by rw [hT]; exact hty) hnar hfit (by simpa using hlen) hd hgo
      · cases h
    · cases h
  · cases h
theorem zix_in {i : Int32} {n j : Nat} (h : zix i n = some j) : vp_in i n ∧ j = i.toNatClampNeg := by
  unfold zix at h
  split at h
  · cases h
  · rename_i hn
    cases h
    exact ⟨hn, rfl⟩
theorem n_iald {md : zM} {pc : Nat} (hd : decode md.2.1 pc = .ok (.iaload, 1)) : zS md pc (pc + 1) i_iald := by
  intro d f ⟨ls, st, M, N, S⟩ r h q
  unfold i_iald at h
  dsimp only at h
  split at h
  · rename_i i a st
    split at h
    · rename_i t n g hm
      by_cases ht0 : t = 0
      rotate_left
      · rw [if_neg ht0] at h
        cases h
      subst ht0
      rw [if_pos rfl] at h
      obtain ⟨j, hj, rfl⟩ := Option.map_eq_some_iff.mp h
      obtain ⟨hin, rfl⟩ := zix_in hj
      have q : zGo d md (pc + 1) (ls, .int (g i.toNatClampNeg) :: st, M, N, S) f := q
      refine ⟨q.1, q.2.1, fun p l e R s m args below meth c D aC base b L xs n0 s0 F hx hn hs H locs lsA hw hl' => ?_⟩
      have hb := q.2.2 p l e R s m args below meth c D aC base b L xs n0 s0 F hx hn hs H locs lsA hw hl'
      by_cases ha : a = 0
      · subst ha
        have hm := hw.2.2.1.symm.trans hm
        injection hm with hm; injection hm with _ hm; injection hm with e1 e2; injection e2 with e2
        subst e1; subst e2
        exact va_sld (b := b) (xs := xs) hx.1 hx.2.1 hx.2.2.2.2.2.2.2.2.2.1 (by have := hx.2.2.2.2.2.2.2.2.2.2.2.1; have := hx.2.2.2.2.2.2.2.2.2.2.1; omega) (A := fun q => base ≤ q) (by have := hx.2.2.2.2.2.2.2.2.2.2.1; omega) hw.2.1 hin hd hb
      · obtain ⟨j, rfl, hj, he⟩ := zwd_arr hw hm (by decide) ha
        exact va_iald hx.1 hx.2.1 hx.2.2.2.2.2.2.2.2.1 hw.1 j 0 he rfl hin hd hb
    · cases h
  · cases h
theorem n_alen {md : zM} {pc : Nat} (hd : decode md.2.1 pc = .ok (.arraylength, 1)) : zS md pc (pc + 1) i_alen := by
  intro d f ⟨ls, st, M, N, S⟩ r h q
  unfold i_alen at h
  dsimp only at h
  split at h
  · rename_i a st
    split at h
    · rename_i t n g hm
      split at h
      · rename_i ht5
        cases h
        have q : zGo d md (pc + 1) (ls, .int (nI n) :: st, M, N, S) f := q
        refine ⟨q.1, q.2.1, fun p l e R s m args below meth c D aC base b L xs n0 s0 F hx hn hs H locs lsA hw hl' => ?_⟩
        have hb := q.2.2 p l e R s m args below meth c D aC base b L xs n0 s0 F hx hn hs H locs lsA hw hl'
        by_cases ha : a = 0
        · subst ha
          have hm := hw.2.2.1.symm.trans hm
          injection hm with hm; injection hm with _ hm; injection hm with e1 e2
          subst e1
          exact va_slen (b := b) (xs := xs) hx.1 hx.2.1 hx.2.2.2.2.2.2.2.2.2.1 (by have := hx.2.2.2.2.2.2.2.2.2.2.2.1; have := hx.2.2.2.2.2.2.2.2.2.2.1; omega) (A := fun q => base ≤ q) (by have := hx.2.2.2.2.2.2.2.2.2.2.1; omega) hw.2.1 hd hb
        · obtain ⟨j, rfl, hj, he⟩ := zwd_arr hw hm (by omega) ha
          rcases (show t = 0 ∨ t = 1 ∨ t = 2 ∨ t = 3 ∨ t = 4 ∨ t = 5 by omega) with rfl | rfl | rfl | rfl | rfl | rfl
          · exact va_alen hx.1 hx.2.1 hx.2.2.2.2.2.2.2.2.1 hw.1 j 0 he rfl rfl hd hb
          · exact va_alen hx.1 hx.2.1 hx.2.2.2.2.2.2.2.2.1 hw.1 j 1 he rfl rfl hd hb
          · exact va_alen hx.1 hx.2.1 hx.2.2.2.2.2.2.2.2.1 hw.1 j 2 he rfl rfl hd hb
          · exact va_alen hx.1 hx.2.1 hx.2.2.2.2.2.2.2.2.1 hw.1 j 3 he rfl rfl hd hb
          · exact va_alen hx.1 hx.2.1 hx.2.2.2.2.2.2.2.2.1 hw.1 j 4 he rfl rfl hd hb
          · exact va_alen hx.1 hx.2.1 hx.2.2.2.2.2.2.2.2.1 hw.1 j 5 he rfl rfl hd hb
      · cases h
    · cases h
  · cases h
theorem n_bald {md : zM} {pc : Nat} (hd : decode md.2.1 pc = .ok (.baload, 1)) : zS md pc (pc + 1) i_bald := by
  intro d f ⟨ls, st, M, N, S⟩ r h q
  unfold i_bald at h
  dsimp only at h
  split at h
  · rename_i i a st
    split at h
    · rename_i t n g hm
      by_cases ht0 : t = 1 ∨ t = 2
      rotate_left
      · rw [if_neg ht0] at h
        cases h
      rcases ht0 with rfl | rfl
      · rw [if_pos (Or.inl rfl)] at h
        obtain ⟨j, hj, rfl⟩ := Option.map_eq_some_iff.mp h
        obtain ⟨hin, rfl⟩ := zix_in hj
        have q : zGo d md (pc + 1) (ls, .int (g i.toNatClampNeg) :: st, M, N, S) f := q
        refine ⟨q.1, q.2.1, fun p l e R s m args below meth c D aC base b L xs n0 s0 F hx hn hs H locs lsA hw hl' => ?_⟩
        have hb := q.2.2 p l e R s m args below meth c D aC base b L xs n0 s0 F hx hn hs H locs lsA hw hl'
        obtain ⟨j, rfl, hj, he⟩ := zwd_arr hw hm (by decide) (fun h => by subst h; have hm := hw.2.2.1.symm.trans hm; injection hm with hm; injection hm with hm; cases hm)
        exact va_bald hx.1 hx.2.1 hx.2.2.2.2.2.2.2.2.1 hw.1 j 1 he rfl hin hd hb
      · rw [if_pos (Or.inr rfl)] at h
        obtain ⟨j, hj, rfl⟩ := Option.map_eq_some_iff.mp h
        obtain ⟨hin, rfl⟩ := zix_in hj
        have q : zGo d md (pc + 1) (ls, .int (g i.toNatClampNeg) :: st, M, N, S) f := q
        refine ⟨q.1, q.2.1, fun p l e R s m args below meth c D aC base b L xs n0 s0 F hx hn hs H locs lsA hw hl' => ?_⟩
        have hb := q.2.2 p l e R s m args below meth c D aC base b L xs n0 s0 F hx hn hs H locs lsA hw hl'
        obtain ⟨j, rfl, hj, he⟩ := zwd_arr hw hm (by decide) (fun h => by subst h; have hm := hw.2.2.1.symm.trans hm; injection hm with hm; injection hm with hm; cases hm)
        exact va_zald hx.1 hx.2.1 hx.2.2.2.2.2.2.2.2.1 hw.1 j 2 he rfl hin hd hb
    · cases h
  · cases h
theorem zrv_up (base b : Nat) (o : Option Nat) : va_rf (o.map (zAd base b)) = zV base b (zrv o) := by cases o <;> rfl
theorem n_aald {md : zM} {pc : Nat} (hd : decode md.2.1 pc = .ok (.aaload, 1)) : zS md pc (pc + 1) i_aald := by
  intro d f ⟨ls, st, M, N, S⟩ r h q
  unfold i_aald at h
  dsimp only at h
  split at h
  · rename_i i a st
    split at h
    · rename_i t n g hm
      split at h
      · rename_i ht
        obtain ⟨j, hj, rfl⟩ := Option.map_eq_some_iff.mp h
        obtain ⟨hin, rfl⟩ := zix_in hj
        have q : zGo d md (pc + 1) (ls, zrv (g i.toNatClampNeg) :: st, M, N, S) f := q
        refine ⟨q.1, q.2.1, fun p l e R s m args below meth c D aC base b L xs n0 s0 F hx hn hs H locs lsA hw hl' => ?_⟩
        have hb := q.2.2 p l e R s m args below meth c D aC base b L xs n0 s0 F hx hn hs H locs lsA hw hl'
        obtain ⟨j, rfl, hj, he⟩ := zwd_arr hw hm (by omega) (fun h => by subst h; have hm := hw.2.2.1.symm.trans hm; injection hm with hm; injection hm with _ hm; injection hm with _ hm; cases hm)
        have hb : W p l e R s m args below meth c H locs (N - n0) (S - s0) (MQ below (zQ D aC base b L xs f) args s (f.2.2.1 - n0) (f.2.2.2 - s0) (fun q => base ≤ q)) (F0 m (pc + 1) lsA (va_rf ((g i.toNatClampNeg).map (zAd base b)) :: st.map (zV base b))) := by rw [zrv_up]; exact hb
        rcases (show t = 3 ∨ t = 4 ∨ t = 5 by omega) with rfl | rfl | rfl
        · exact va_aldq hx.1 hx.2.1 hx.2.2.2.2.2.2.2.2.1 hw.1 j 3 he rfl hin hd hb
        · exact va_aldq hx.1 hx.2.1 hx.2.2.2.2.2.2.2.2.1 hw.1 j 4 he rfl hin hd hb
        · exact va_aldq hx.1 hx.2.1 hx.2.2.2.2.2.2.2.2.1 hw.1 j 5 he rfl hin hd hb
      · cases h
    · cases h
  · cases h
theorem n_iast {md : zM} {pc : Nat} (hd : decode md.2.1 pc = .ok (.iastore, 1)) : zS md pc (pc + 1) i_iast := by
  intro d f ⟨ls, st, M, N, S⟩ r h q
  unfold i_iast at h
  dsimp only at h
  split at h
  · rename_i x i a st
    split at h
    · rename_i t n g hm
      split at h
      rotate_left
      · cases h
      · rename_i ha
        obtain ⟨rfl, ha⟩ := ha
        obtain ⟨j, hj, rfl⟩ := Option.map_eq_some_iff.mp h
        obtain ⟨hin, rfl⟩ := zix_in hj
        have q : zGo d md (pc + 1) (ls, st, va_up M a (.inl (0, n, .inl (upd g i.toNatClampNeg x))), N, S) f := q
        refine ⟨q.1, q.2.1, fun p l e R s m args below meth c D aC base b L xs n0 s0 F hx hn hs H locs lsA hw hl' => ?_⟩
        obtain ⟨j, rfl, hj, he⟩ := zwd_arr hw hm (by decide) ha
        exact va_iast hx.1 hx.2.1 hx.2.2.2.2.2.2.2.2.1 hw.1 (zW_D aC base b M N) hw.2.1 j 0 he rfl hin hd (fun H1 locs1 hP1 _ hS1 => q.2.2 p l e R s m args below meth c D aC base b L xs n0 s0 F hx hn hs H1 locs1 lsA (zwd_put hw hj hP1 hS1) hl')
    · cases h
  · cases h
theorem n_bast {md : zM} {pc : Nat} (hd : decode md.2.1 pc = .ok (.bastore, 1)) : zS md pc (pc + 1) i_bast := by
  intro d f ⟨ls, st, M, N, S⟩ r h q
  unfold i_bast at h
  dsimp only at h
  split at h
  · rename_i x i a st
    split at h
    · rename_i t n g hm
      by_cases ht0 : t = 1 ∨ t = 2
      rotate_left
      · rw [if_neg (fun e => ht0 (Or.inl e)), if_neg (fun e => ht0 (Or.inr e))] at h
        cases h
      rcases ht0 with rfl | rfl
      · rw [if_pos rfl] at h
        obtain ⟨j, hj, rfl⟩ := Option.map_eq_some_iff.mp h
        obtain ⟨hin, rfl⟩ := zix_in hj
        have q : zGo d md (pc + 1) (ls, st, va_up M a (.inl (1, n, .inl (upd g i.toNatClampNeg x.toInt8.toInt32))), N, S) f := q
        refine ⟨q.1, q.2.1, fun p l e R s m args below meth c D aC base b L xs n0 s0 F hx hn hs H locs lsA hw hl' => ?_⟩
        obtain ⟨j, rfl, hj, he⟩ := zwd_arr hw hm (by decide) (fun h => by subst h; have hm := hw.2.2.1.symm.trans hm; injection hm with hm; injection hm with hm; cases hm)
        exact va_bast hx.1 hx.2.1 hx.2.2.2.2.2.2.2.2.1 hw.1 (zW_D aC base b M N) hw.2.1 j 1 he rfl hin hd (fun H1 locs1 hP1 _ hS1 => q.2.2 p l e R s m args below meth c D aC base b L xs n0 s0 F hx hn hs H1 locs1 lsA (zwd_put hw hj (by rw [vp_nar_byte] at hP1; exact hP1) hS1) hl')
      · rw [if_neg (by decide), if_pos rfl] at h
        obtain ⟨j, hj, rfl⟩ := Option.map_eq_some_iff.mp h
        obtain ⟨hin, rfl⟩ := zix_in hj
        have q : zGo d md (pc + 1) (ls, st, va_up M a (.inl (2, n, .inl (upd g i.toNatClampNeg (x &&& 1)))), N, S) f := q
        refine ⟨q.1, q.2.1, fun p l e R s m args below meth c D aC base b L xs n0 s0 F hx hn hs H locs lsA hw hl' => ?_⟩
        obtain ⟨j, rfl, hj, he⟩ := zwd_arr hw hm (by decide) (fun h => by subst h; have hm := hw.2.2.1.symm.trans hm; injection hm with hm; injection hm with hm; cases hm)
        exact va_zast hx.1 hx.2.1 hx.2.2.2.2.2.2.2.2.1 hw.1 (zW_D aC base b M N) hw.2.1 j 2 he rfl hin hd (fun H1 locs1 hP1 _ hS1 => q.2.2 p l e R s m args below meth c D aC base b L xs n0 s0 F hx hn hs H1 locs1 lsA (zwd_put hw hj hP1 hS1) hl')
    · cases h
  · cases h
theorem n_aast {md : zM} {pc : Nat} (hd : decode md.2.1 pc = .ok (.aastore, 1)) : zS md pc (pc + 1) i_aast := by
  intro d f ⟨ls, st, M, N, S⟩ r h q
  unfold i_aast at h
  dsimp only at h
  split at h
  · rename_i v i a st
    split at h
    · rename_i t n g ci fs hm hmv
      split at h
      · rename_i hz
        obtain ⟨j, hj, rfl⟩ := Option.map_eq_some_iff.mp h
        obtain ⟨hin, rfl⟩ := zix_in hj
        have q : zGo d md (pc + 1) (ls, st, va_up M a (.inl (t, n, .inr (va_up g i.toNatClampNeg (some v)))), N, S) f := q
        refine ⟨q.1, q.2.1, fun p l e R s m args below meth c D aC base b L xs n0 s0 F hx hn hs H locs lsA hw hl' => ?_⟩
        obtain ⟨j, rfl, hj, he⟩ := zwd_arr hw hm (by intro h9; subst h9; simp [zarr] at hz) (fun h => by subst h; have hm := hw.2.2.1.symm.trans hm; injection hm with hm; injection hm with _ hm; injection hm with _ hm; cases hm)
        obtain ⟨jv, rfl, hjv, hev⟩ := zwd_obj hw hmv
        have hE : zE aC base b (.inl (t, n, .inr (va_up g i.toNatClampNeg (some (jv + 1))))) = .inl (aC t, n, .inr (.inr (.inr (.inr (va_up (fun j => (g j).map (zAd base b)) i.toNatClampNeg (some (base + jv))))))) := by
          simp only [zE, zA]
          congr 7
          funext y
          unfold va_up
          split <;> rfl
        have hgo : ∀ (H1 : Heap) (locs1 : List Loc), va_P D zCl ((zW aC base b M N).set j (base + j, .inl (aC t, n, .inr (.inr (.inr (.inr (va_up (fun j => (g j).map (zAd base b)) i.toNatClampNeg (some (base + jv))))))))) H1 → va_D (fun q => base ≤ q) ((zW aC base b M N).set j (base + j, .inl (aC t, n, .inr (.inr (.inr (.inr (va_up (fun j => (g j).map (zAd base b)) i.toNatClampNeg (some (base + jv))))))))) → va_S (fun q => base ≤ q) s.heap H1 locs1 → W p l e R s m args below meth c H1 locs1 (N - n0) (S - s0) (MQ below (zQ D aC base b L xs f) args s (f.2.2.1 - n0) (f.2.2.2 - s0) (fun q => base ≤ q)) (F0 m (pc + 1) lsA (st.map (zV base b))) := by
          intro H1 locs1 hP1 _ hS1
          rw [← hE] at hP1
          exact q.2.2 p l e R s m args below meth c D aC base b L xs n0 s0 F hx hn hs H1 locs1 lsA (zwd_put hw hj hP1 hS1) hl'
        have hbd : zBd s := hx.2.2.2.2.2.2.2.2.2.2.2.2.2.2.2.2.2
        simp only [zarr, Bool.or_eq_true, Bool.and_eq_true, beq_iff_eq] at hz
        rcases hz with (⟨rfl, rfl⟩ | ⟨rfl, rfl⟩) | ⟨rfl, ((((rfl | rfl) | rfl) | rfl) | rfl) | rfl⟩
        · exact va_astq hx.1 hx.2.1 hx.2.2.2.2.2.2.2.2.1 hw.1 (zW_D aC base b M N) hw.2.1 j 3 jv 6 (r := ("OneDoor$Now", zT6, 7)) he rfl hev rfl hin hd hgo
        · exact va_astq hx.1 hx.2.1 hx.2.2.2.2.2.2.2.2.1 hw.1 (zW_D aC base b M N) hw.2.1 j 4 jv 5 (r := ("OneDoor$Life", zT5, 3)) he rfl hev rfl hin hd hgo
        · exact va_astqO hx.1 hx.2.1 hx.2.2.2.2.2.2.2.2.1 hw.1 (zW_D aC base b M N) hw.2.1 j 5 jv 0 (r := ("OneDoor$Attic", zT3, 3)) he rfl hbd.2.2.2.2.2.2.2.2.2.2 hev rfl hin hd hgo
        · exact va_astqO hx.1 hx.2.1 hx.2.2.2.2.2.2.2.2.1 hw.1 (zW_D aC base b M N) hw.2.1 j 5 jv 1 (r := ("OneDoor$Bath", zT3, 3)) he rfl hbd.2.2.2.2.2.2.2.1 hev rfl hin hd hgo
        · exact va_astqO hx.1 hx.2.1 hx.2.2.2.2.2.2.2.2.1 hw.1 (zW_D aC base b M N) hw.2.1 j 5 jv 2 (r := ("OneDoor$Curtain", zT3, 3)) he rfl hbd.2.2.2.2.2.2.2.2.2.1 hev rfl hin hd hgo
        · exact va_astq hx.1 hx.2.1 hx.2.2.2.2.2.2.2.2.1 hw.1 (zW_D aC base b M N) hw.2.1 j 5 jv 3 (r := ("OneDoor$Hall", zT3, 3)) he rfl hev rfl hin hd hgo
        · exact va_astqO hx.1 hx.2.1 hx.2.2.2.2.2.2.2.2.1 hw.1 (zW_D aC base b M N) hw.2.1 j 5 jv 4 (r := ("OneDoor$Kitchen", zT3, 3)) he rfl hbd.2.2.2.2.2.2.1 hev rfl hin hd hgo
        · exact va_astqO hx.1 hx.2.1 hx.2.2.2.2.2.2.2.2.1 hw.1 (zW_D aC base b M N) hw.2.1 j 5 jv 7 (r := ("OneDoor$Piano", zT3, 3)) he rfl hbd.2.2.2.2.2.2.2.2.1 hev rfl hin hd hgo
      · cases h
    · cases h
  · cases h
theorem znew_q {base b N q : Nat} {aC : Nat → ClassId} {M : zHp} {D : va_G} {e : va_E} {H1 : Heap} (hP : va_P D zCl (zW aC base b M N ++ [(q, e)]) H1) (hD : va_D (fun q => base ≤ q) (zW aC base b M N ++ [(q, e)])) (hsz : H1.size ≤ base + N + 1) : q = base + N := by
  have hg : (zW aC base b M N ++ [(q, e)])[N]? = some (q, e) := by
    rw [List.getElem?_append_right (by rw [zW_len]; omega), zW_len]
    simp
  have h1 : base ≤ q := hD.2 N (q, e) hg
  have h2 : q < H1.size := (hP N (q, e) hg).lt
  rcases Nat.lt_or_ge q (base + N) with h | h
  · exfalso
    have hk : (zW aC base b M N ++ [(q, e)])[q - base]? = some (base + (q - base), zE aC base b (M (q - base + 1))) := by
      rw [List.getElem?_append_left (by rw [zW_len]; omega)]
      exact zW_get (by omega)
    have := hD.1 (q - base) N _ _ hk hg (by show base + (q - base) = q; omega)
    omega
  · omega
theorem zwd_new {D : va_G} {aC : Nat → ClassId} {base b L : Nat} {xs : Nat → Int32} {M : zHp} {N : Nat} {s : State} {H H1 : Heap} {locs : List Loc} {c : zAC} (hw : zWd D aC base b L xs M N s H locs) (hP : va_P D zCl (zW aC base b M N ++ [(base + N, zE aC base b c)]) H1) (hS : va_S (fun q => base ≤ q) s.heap H1 locs) : zWd D aC base b L xs (va_up M (N + 1) c) (N + 1) s H1 locs := by
  rw [zW_push c] at hP
  refine ⟨hP, hS, ?_, fun k hk => ?_⟩
  · unfold va_up
    rw [if_neg (by omega)]
    exact hw.2.2.1
  · unfold va_up
    rw [if_neg (by omega)]
    exact hw.2.2.2 k (by omega)
theorem zdef_map (base b : Nat) : ∀ (fs : List Value), fs.all (fun v => decide (v = .null ∨ v = .int 0 ∨ v = .long 0)) = true → fs.map (zV base b) = fs
  | [], _ => rfl
  | v :: fs, h => by
    rw [List.all_cons, Bool.and_eq_true] at h
    rw [List.map_cons, zdef_map base b fs h.2]
    have h1 : v = .null ∨ v = .int 0 ∨ v = .long 0 := by simpa using h.1
    rcases h1 with rfl | rfl | rfl <;> rfl
theorem n_new {md : zM} {pc idx ci n : Nat} {C : String} {T : u_T} {fs : List Value} (hC : zCl[ci]? = some (C, T, n)) (hl : Cond.classLink md.1.cls idx C ∈ zgt) (hn : fs.length = n) (hdf : fs.all (fun v => decide (v = .null ∨ v = .int 0 ∨ v = .long 0)) = true) (ty : Nat → FieldType) (hty : ∀ k, k < n → parseFieldDescriptor (T k).2.2.1 = some (ty k)) (hfs : ∀ j, j < n → defaultValue (ty j) = vp_V fs j) (hd : decode md.2.1 pc = .ok (.new idx, 3)) : zS md pc (pc + 3) (i_new ci fs) := by
  intro d f ⟨ls, st, M, N, S⟩ r h q
  cases h
  have q : zGo d md (pc + 3) (ls, .ref (N + 1) :: st, va_up M (N + 1) (.inr (ci, fs)), N + 1, S + fs.length) f := q
  have q1 : N + 1 ≤ f.2.2.1 := q.1
  have q2 : S + fs.length ≤ f.2.2.2 := q.2.1
  refine ⟨by show N ≤ _; omega, by show S ≤ _; omega, fun p l e R s m args below meth c D aC base b L xs n0 s0 F hx hn0 hs0 H locs lsA hw hl' => ?_⟩
  have hn0 : n0 ≤ N := hn0
  have hs0 : s0 ≤ S := hs0
  have hw : zWd D aC base b L xs M N s H locs := hw
  have hsz := hx.2.2.2.2.2.2.2.2.2.2.2.1
  have hcl := hx.2.2.2.2.2.2.2.2.2.2.2.2.1
  have hsl := hx.2.2.2.2.2.2.2.2.2.2.2.2.2.1
  obtain ⟨hcin, -, -, hinst, hini⟩ := zcls hC
  refine va_new (ci := ci) (fs := fs) (C := C) (T := T) (N := n) hx.1 hx.2.1 hx.2.2.2.2.1 hcin ty hty hx.2.2.2.1 (hx.2.2.2.2.1 _ hl) (hx.2.2.2.2.1 _ hinst) (hx.2.2.2.2.1 _ hini) hx.2.2.2.2.2.2.2.2.1 hw.1 (zW_D aC base b M N) hw.2.1 (fun q hq => by have hq : s.heap.size ≤ q := hq; show base ≤ q; omega) hC hfs (by show N - n0 + 1 ≤ _; omega) (by show S - s0 + n ≤ _; omega) hd ?_
  intro q0 H1 hP1 hD1 hS1 T1 hT1 X1
  have hh := X1.heapSize
  have hh : T1.heap.size ≤ s.heap.size + (N - n0 + 1) := hh
  rw [hT1] at hh
  obtain rfl := znew_q hP1 hD1 (by omega)
  have e1 : N + 1 - n0 = N - n0 + 1 := by omega
  have e2 : S + fs.length - s0 = S - s0 + n := by omega
  have hE : zE aC base b (.inr (ci, fs)) = .inr (ci, fs) := by simp only [zE]; rw [zdef_map base b fs hdf]
  have K := q.2.2 p l e R s m args below meth c D aC base b L xs n0 s0 F hx (by show n0 ≤ N + 1; omega) (by show s0 ≤ S + fs.length; omega) H1 locs lsA (zwd_new hw (by rw [hE]; exact hP1) hS1) hl'
  have K : W p l e R s m args below meth c H1 locs (N + 1 - n0) (S + fs.length - s0) (MQ below (zQ D aC base b L xs f) args s (f.2.2.1 - n0) (f.2.2.2 - s0) (fun q => base ≤ q)) (F0 m (pc + 3) lsA (.ref (base + N) :: st.map (zV base b))) := K
  rw [e1, e2] at K
  exact K T1 hT1 X1
theorem zRA_uniq {s : State} {c1 c2 : ClassId} {ty : FieldType} (h1 : va_RA s c1 ty) (h2 : va_RA s c2 ty) : c1 = c2 := by
  cases ty with
  | object C =>
    obtain ⟨_, _, _, _, _, a⟩ := h1
    obtain ⟨_, _, _, _, _, b⟩ := h2
    exact Option.some.inj (a.symm.trans b)
  | _ =>
    have a : s.vm.findClass _ = some c1 := h1
    have b : s.vm.findClass _ = some c2 := h2
    exact Option.some.inj (a.symm.trans b)
theorem n_newa {md : zM} {pc t : Nat} {aty : ArrayType} {ty : FieldType} (hty : newarray.typeOf aty = ty) (hw0 : Cond.arrayClass ty ∈ zgt) (ht : ∀ aC : Nat → ClassId, (zTys aC)[t]? = some (aC t, ty)) (hdf : defaultValue ty = .int 0) (hby : componentBytes ty ≤ 4) (hd : decode md.2.1 pc = .ok (.newarray aty, 2)) : zS md pc (pc + 2) (i_newa t) := by
  intro d f ⟨ls, st, M, N, S⟩ r h q
  unfold i_newa at h
  dsimp only at h
  split at h
  · rename_i n st
    split at h
    · rename_i hnn
      obtain ⟨hnn, hbig⟩ := hnn
      cases h
      have q : zGo d md (pc + 2) (ls, .ref (N + 1) :: st, va_up M (N + 1) (.inl (t, n.toNatClampNeg, .inl fun _ => 0)), N + 1, S + n.toNatClampNeg) f := q
      have q1 : N + 1 ≤ f.2.2.1 := q.1
      have q2 : S + n.toNatClampNeg ≤ f.2.2.2 := q.2.1
      refine ⟨by show N ≤ _; omega, by show S ≤ _; omega, fun p l e R s m args below meth c D aC base b L xs n0 s0 F hx hn0 hs0 H locs lsA hw hl' => ?_⟩
      have hn0 : n0 ≤ N := hn0
      have hs0 : s0 ≤ S := hs0
      have hw : zWd D aC base b L xs M N s H locs := hw
      have hsz := hx.2.2.2.2.2.2.2.2.2.2.2.1
      have hcl := hx.2.2.2.2.2.2.2.2.2.2.2.2.1
      have hsl := hx.2.2.2.2.2.2.2.2.2.2.2.2.2.1
      refine va_newa (atype := aty) hx.1 hx.2.1 (by rw [hty]; exact hx.2.2.2.2.1 _ hw0) hty hx.2.2.2.2.2.2.2.2.1 hw.1 (zW_D aC base b M N) hw.2.1 (fun q hq => by have hq : s.heap.size ≤ q := hq; show base ≤ q; omega) (a0 := (n.toNatClampNeg, .inl fun _ => 0)) (fun cA => by rw [hdf]; rfl) hnn rfl (by have := Nat.mul_le_mul hbig hby; omega) (by show N - n0 + 1 ≤ _; omega) (by show S - s0 + n.toNatClampNeg ≤ _; omega) hd ?_
      intro q0 cA H1 hK1 hP1 hD1 hS1 T1 hT1 X1
      have hcA : cA = aC t := by
        have h1 := (hK1.2 (zTys aC).length (cA, ty) (by simp)).2
        have h2 := (hx.2.2.2.2.2.2.2.2.1.2 t (aC t, ty) (ht aC)).2
        exact zRA_uniq h1 h2
      subst hcA
      have hh := X1.heapSize
      have hh : T1.heap.size ≤ s.heap.size + (N - n0 + 1) := hh
      rw [hT1] at hh
      obtain rfl := znew_q hP1 hD1 (by omega)
      have e1 : N + 1 - n0 = N - n0 + 1 := by omega
      have e2 : S + n.toNatClampNeg - s0 = S - s0 + n.toNatClampNeg := by omega
      have K := q.2.2 p l e R s m args below meth c D aC base b L xs n0 s0 F hx (by show n0 ≤ N + 1; omega) (by show s0 ≤ S + _; omega) H1 locs lsA (zwd_new hw hP1 hS1) hl'
      have K : W p l e R s m args below meth c H1 locs (N + 1 - n0) (S + n.toNatClampNeg - s0) (MQ below (zQ D aC base b L xs f) args s (f.2.2.1 - n0) (f.2.2.2 - s0) (fun q => base ≤ q)) (F0 m (pc + 2) lsA (.ref (base + N) :: st.map (zV base b))) := K
      rw [e1, e2] at K
      exact K T1 hT1 X1
    · cases h
  · cases h
theorem n_anew {md : zM} {pc t idx : Nat} {C : String} (hl : Cond.classLink md.1.cls idx C ∈ zgt) (hw0 : ∀ U, zBd U → va_AO C U) (ht : ∀ aC : Nat → ClassId, (zTys aC)[t]? = some (aC t, .object C)) (hd : decode md.2.1 pc = .ok (.anewarray idx, 3)) : zS md pc (pc + 3) (i_anew t) := by
  intro d f ⟨ls, st, M, N, S⟩ r h q
  unfold i_anew at h
  dsimp only at h
  split at h
  · rename_i n st
    split at h
    · rename_i hnn
      obtain ⟨hnn, hbig⟩ := hnn
      cases h
      have q : zGo d md (pc + 3) (ls, .ref (N + 1) :: st, va_up M (N + 1) (.inl (t, n.toNatClampNeg, .inr fun _ => none)), N + 1, S + n.toNatClampNeg) f := q
      have q1 : N + 1 ≤ f.2.2.1 := q.1
      have q2 : S + n.toNatClampNeg ≤ f.2.2.2 := q.2.1
      refine ⟨by show N ≤ _; omega, by show S ≤ _; omega, fun p l e R s m args below meth c D aC base b L xs n0 s0 F hx hn0 hs0 H locs lsA hw hl' => ?_⟩
      have hn0 : n0 ≤ N := hn0
      have hs0 : s0 ≤ S := hs0
      have hw : zWd D aC base b L xs M N s H locs := hw
      have hsz := hx.2.2.2.2.2.2.2.2.2.2.2.1
      have hcl := hx.2.2.2.2.2.2.2.2.2.2.2.2.1
      have hsl := hx.2.2.2.2.2.2.2.2.2.2.2.2.2.1
      refine va_newq hx.1 hx.2.1 hx.2.2.2.1 (hx.2.2.2.2.1 _ hl) (hw0 s hx.2.2.2.2.2.2.2.2.2.2.2.2.2.2.2.2.2) hx.2.2.2.2.2.2.2.2.1 hw.1 (zW_D aC base b M N) hw.2.1 (fun q hq => by have hq : s.heap.size ≤ q := hq; show base ≤ q; omega) hnn rfl (by omega) (by show N - n0 + 1 ≤ _; omega) (by show S - s0 + n.toNatClampNeg ≤ _; omega) hd ?_
      intro q0 cA H1 hK1 hP1 hD1 hS1 T1 hT1 X1
      have hcA : cA = aC t := by
        have h1 := (hK1.2 (zTys aC).length (cA, .object C) (by simp)).2
        have h2 := (hx.2.2.2.2.2.2.2.2.1.2 t (aC t, .object C) (ht aC)).2
        exact zRA_uniq h1 h2
      subst hcA
      have hh := X1.heapSize
      have hh : T1.heap.size ≤ s.heap.size + (N - n0 + 1) := hh
      rw [hT1] at hh
      obtain rfl := znew_q hP1 hD1 (by omega)
      have e1 : N + 1 - n0 = N - n0 + 1 := by omega
      have e2 : S + n.toNatClampNeg - s0 = S - s0 + n.toNatClampNeg := by omega
      have K := q.2.2 p l e R s m args below meth c D aC base b L xs n0 s0 F hx (by show n0 ≤ N + 1; omega) (by show s0 ≤ S + _; omega) H1 locs lsA (zwd_new hw hP1 hS1) hl'
      have K : W p l e R s m args below meth c H1 locs (N + 1 - n0) (S + n.toNatClampNeg - s0) (MQ below (zQ D aC base b L xs f) args s (f.2.2.1 - n0) (f.2.2.2 - s0) (fun q => base ≤ q)) (F0 m (pc + 3) lsA (.ref (base + N) :: st.map (zV base b))) := K
      rw [e1, e2] at K
      exact K T1 hT1 X1
    · cases h
  · cases h
theorem zsm_cat (base b : Nat) {st : List Value} (h : zsm st = true) : ((st.map (zV base b)).map fun v => v.category).sum ≤ 8 := by
  have hc : ∀ v : Value, (zV base b v).category ≤ 2 := fun v => by rcases lv_cat (zV base b v) with h | h <;> omega
  match st, h with
  | [], _ => simp
  | [a], _ => have := hc a; simp; omega
  | [a, b'], _ => have := hc a; have := hc b'; simp; omega
  | [a, b', c'], _ => have := hc a; have := hc b'; have := hc c'; simp; omega
  | [a, b', c', d'], _ => have := hc a; have := hc b'; have := hc c'; have := hc d'; simp; omega
  | [a, b', c', d', e'], h =>
    have h1 : ∀ v : Value, z1 v = true → (zV base b v).category = 1 := fun v hv => by
      cases v with
      | int x => rfl
      | ref x => rfl
      | null => rfl
      | _ => cases hv
    have h : (z1 a && z1 b' && z1 c' && z1 d' && z1 e') = true := h
    simp only [Bool.and_eq_true] at h
    have := h1 a h.1.1.1.1
    have := h1 b' h.1.1.1.2
    have := h1 c' h.1.1.2
    have := h1 d' h.1.2
    have := h1 e' h.2
    simp
    omega
theorem n_acopy {md : zM} {pc idx : Nat} (hl : Cond.methodLink md.1.cls idx arraycopyName ∈ zgt) (h1 : Cond.native arraycopyName ∈ zgt) (h2 : Cond.static arraycopyName ∈ zgt) (h3 : Cond.initialized "java/lang/System" ∈ zgt) (hd : decode md.2.1 pc = .ok (.invokestatic idx, 3)) : zS md pc (pc + 3) i_acopy := by
  intro d f ⟨ls, st, M, N, S⟩ r h q
  unfold i_acopy at h
  dsimp only at h
  split at h
  · rename_i n dp a sp a0 st
    split at h
    · rename_i t0 k0 g0 t1 k1 g1 hm0 hm1
      split at h
      rotate_left
      · cases h
      · rename_i hno
        obtain ⟨rfl, rfl, ha, ha0, c1, c2, c3, c4, c5, c6⟩ := hno
        cases h
        have q : zGo d md (pc + 3) (ls, st, va_up M a (.inl (0, k1, .inl (va_cpy g0 g1 sp.toNatClampNeg dp.toNatClampNeg n.toNatClampNeg))), N, S) f := q
        refine ⟨q.1, q.2.1, fun p l e R s m args below meth c D aC base b L xs n0 s0 F hx hn hs H locs lsA hw hl' => ?_⟩
        obtain ⟨j0, rfl, hj0, he0⟩ := zwd_arr hw hm0 (by decide) ha0
        obtain ⟨j1, rfl, hj1, he1⟩ := zwd_arr hw hm1 (by decide) ha
        have hFR := hx.2.2.2.2.2.2.2.2.2.2.2.2.2.2
        have hcat := zsm_cat base b c6
        exact va_copyi hx.1 hx.2.1 (by rw [hx.2.2.1, hl'.2.1]) hx.2.2.2.1 (hx.2.2.2.2.1 _ hl) (hx.2.2.2.2.1 _ h1) (hx.2.2.2.2.1 _ h2) (hx.2.2.2.2.1 _ h3) hx.2.2.2.2.2.2.2.2.1 hw.1 (zW_D aC base b M N) hw.2.1 j0 j1 0 0 he0 he1 rfl rfl rfl c2 c3 c1 c4 c5 (fun i _ => rfl) (by omega) (by rw [show nativeFrameWords "java/lang/System" "arraycopy" 5 = 7 by decide]; omega) hd
          (fun H1 locs1 hP1 _ hS1 => q.2.2 p l e R s m args below meth c D aC base b L xs n0 s0 F hx hn hs H1 locs1 lsA (zwd_put hw hj1 hP1 hS1) hl')
    · cases h
  · cases h
