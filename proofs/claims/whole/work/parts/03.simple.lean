/-! instructions that leave the heap alone -/
def i_const (v : Int32) : zI := fun c => some (.inl (c.1, .int v :: c.2.1, c.2.2))
def i_lconst (v : Int64) : zI := fun c => some (.inl (c.1, .long v :: c.2.1, c.2.2))
def i_iload (i : Nat) : zI := fun c => match c.1[i]? with
  | some (.int x) => some (.inl (c.1, .int x :: c.2.1, c.2.2))
  | _ => none
def i_lload (i : Nat) : zI := fun c => match c.1[i]? with
  | some (.long x) => some (.inl (c.1, .long x :: c.2.1, c.2.2))
  | _ => none
def i_aload (i : Nat) : zI := fun c => match c.1[i]? with
  | some (.ref x) => some (.inl (c.1, .ref x :: c.2.1, c.2.2))
  | _ => none
def zset : List Value → Nat → Value → Option (List Value)
  | [], _, _ => none
  | w :: ls, 0, v => if w = .retAddr 1 then none else some (v :: ls)
  | w :: ls, i + 1, v => (zset ls i v).map (fun l => w :: l)
def i_istore (i : Nat) : zI := fun c => match c.2.1 with
  | .int x :: st => (zset c.1 i (.int x)).map fun ls => .inl (ls, st, c.2.2)
  | _ => none
def i_astore (i : Nat) : zI := fun c => match c.2.1 with
  | .ref x :: st => (zset c.1 i (.ref x)).map fun ls => .inl (ls, st, c.2.2)
  | _ => none
def i_lstore (i : Nat) : zI := fun c => match c.2.1 with
  | .long x :: st => (zset c.1 i (.long x)).bind fun ls => if i + 1 < c.1.length then some (.inl (ls.set (i + 1) (.retAddr 1), st, c.2.2)) else none
  | _ => none
def i_iinc (i : Nat) (v : Int32) : zI := fun c => match c.1[i]? with
  | some (.int x) => (zset c.1 i (.int (x + v))).map fun ls => .inl (ls, c.2.1, c.2.2)
  | _ => none
def i_bin (o : Int32 → Int32 → Int32) : zI := fun c => match c.2.1 with
  | .int y :: .int x :: st => some (.inl (c.1, .int (o x y) :: st, c.2.2))
  | _ => none
def i_un (o : Int32 → Int32) : zI := fun c => match c.2.1 with
  | .int x :: st => some (.inl (c.1, .int (o x) :: st, c.2.2))
  | _ => none
/-- division, remainder: by 0 it's stuck -/
def i_div (o : Int32 → Int32 → Int32) : zI := fun c => match c.2.1 with
  | .int y :: .int x :: st => if y = 0 then none else some (.inl (c.1, .int (o x y) :: st, c.2.2))
  | _ => none
def i_ladd : zI := fun c => match c.2.1 with
  | .long y :: .long x :: st => some (.inl (c.1, .long (x + y) :: st, c.2.2))
  | _ => none
def i_lcmp : zI := fun c => match c.2.1 with
  | .long y :: .long x :: st => some (.inl (c.1, .int (lg_cmp x y) :: st, c.2.2))
  | _ => none
def z1 : Value → Bool
  | .int _ => true
  | .ref _ => true
  | .null => true
  | _ => false
def i_dup : zI := fun c => match c.2.1 with
  | v :: st => if z1 v = true then some (.inl (c.1, v :: v :: st, c.2.2)) else none
  | _ => none
def i_dup2 : zI := fun c => match c.2.1 with
  | v :: w :: st => if (z1 v && z1 w) = true then some (.inl (c.1, v :: w :: v :: w :: st, c.2.2)) else none
  | _ => none
def i_pop : zI := fun c => match c.2.1 with
  | v :: st => if z1 v = true then some (.inl (c.1, st, c.2.2)) else none
  | _ => none
def i_goto (t : Nat) : zI := fun c => some (.inr (.inl (true, t, c)))
def i_if (o : Int32 → Bool) (t : Nat) : zI := fun c => match c.2.1 with
  | .int x :: st => some (.inr (.inl (o x, t, (c.1, st, c.2.2))))
  | _ => none
def i_icmp (o : Int32 → Int32 → Bool) (t : Nat) : zI := fun c => match c.2.1 with
  | .int y :: .int x :: st => some (.inr (.inl (o x y, t, (c.1, st, c.2.2))))
  | _ => none
def zsw (ps : List (Int32 × Nat)) (d : Nat) (x : Int32) : Nat := match ps with
  | [] => d
  | (k, t) :: r => if x = k then t else zsw r d x
def i_sw (ps : List (Int32 × Nat)) (d : Nat) : zI := fun c => match c.2.1 with
  | .int x :: st => some (.inr (.inl (true, zsw ps d x, (c.1, st, c.2.2))))
  | _ => none
def i_ret : zI := fun c => match c.2.1 with
  | [.int x] => some (.inr (.inr (.inl (some (.int x), c.2.2))))
  | _ => none
def i_zret : zI := fun c => match c.2.1 with
  | [.int x] => if x = 0 ∨ x = 1 then some (.inr (.inr (.inl (some (.int x), c.2.2)))) else none
  | _ => none
def i_lret : zI := fun c => match c.2.1 with
  | [.long x] => some (.inr (.inr (.inl (some (.long x), c.2.2))))
  | _ => none
def i_vret : zI := fun c => match c.2.1 with
  | [] => some (.inr (.inr (.inl (none, c.2.2))))
  | _ => none
-- they are what the machine does
theorem n_iconst {md : zM} {pc : Nat} {n : Int} {v : Int32} (hv : Int32.ofInt n = v) (hd : decode md.2.1 pc = .ok (.iconst n, 1)) : zS md pc (pc + 1) (i_const v) := by
  intro d f ⟨ls, st, M, N, S⟩ r h k
  cases h
  exact zG_simple (fun p l e R s m args below meth c H locs cells slots Q lsA base b hx hb ho ht hl k => lv_iconst hx hb hd hv k) k
theorem n_bipush {md : zM} {pc : Nat} {n : Int} {v : Int32} (hv : (Int8.ofInt n).toInt32 = v) (hd : decode md.2.1 pc = .ok (.bipush n, 2)) : zS md pc (pc + 2) (i_const v) := by
  intro d f ⟨ls, st, M, N, S⟩ r h k
  cases h
  exact zG_simple (fun p l e R s m args below meth c H locs cells slots Q lsA base b hx hb ho ht hl k => lv_bipush hx hb hd hv k) k
theorem n_sipush {md : zM} {pc : Nat} {n : Int} {v : Int32} (hv : (Int16.ofInt n).toInt32 = v) (hd : decode md.2.1 pc = .ok (.sipush n, 3)) : zS md pc (pc + 3) (i_const v) := by
  intro d f ⟨ls, st, M, N, S⟩ r h k
  cases h
  exact zG_simple (fun p l e R s m args below meth c H locs cells slots Q lsA base b hx hb ho ht hl k => lv_sipush hx hb hd hv k) k
theorem n_ldc {md : zM} {pc i : Nat} {v : Int32} (hw : Cond.constant md.1.cls i v ∈ zgt) (hd : decode md.2.1 pc = .ok (.ldc i, 2)) : zS md pc (pc + 2) (i_const v) := by
  intro d f ⟨ls, st, M, N, S⟩ r h k
  cases h
  exact zG_simple (fun p l e R s m args below meth c H locs cells slots Q lsA base b hx hb ho ht hl k => lv_ldc hx hb ho (ht _ hw) hd k) k
theorem n_ldcw {md : zM} {pc i : Nat} {v : Int32} (hw : Cond.constant md.1.cls i v ∈ zgt) (hd : decode md.2.1 pc = .ok (.ldc_w i, 3)) : zS md pc (pc + 3) (i_const v) := by
  intro d f ⟨ls, st, M, N, S⟩ r h k
  cases h
  exact zG_simple (fun p l e R s m args below meth c H locs cells slots Q lsA base b hx hb ho ht hl k => lv_ldcw hx hb ho (ht _ hw) hd k) k
theorem n_ldc2 {md : zM} {pc i : Nat} {v : Int64} (hw : Cond.constantLong md.1.cls i v ∈ zgt) (hd : decode md.2.1 pc = .ok (.ldc2_w i, 3)) : zS md pc (pc + 3) (i_lconst v) := by
  intro d f ⟨ls, st, M, N, S⟩ r h k
  cases h
  exact zG_simple (fun p l e R s m args below meth c H locs cells slots Q lsA base b hx hb ho ht hl k => lv_ldc2 hx hb ho (ht _ hw) hd k) k
theorem n_lconst {md : zM} {pc : Nat} {n : Fin 2} {v : Int64} (hv : Int64.ofNat (n : Nat) = v) (hd : decode md.2.1 pc = .ok (.lconst n, 1)) : zS md pc (pc + 1) (i_lconst v) := by
  intro d f ⟨ls, st, M, N, S⟩ r h k
  cases h
  exact zG_simple (fun p l e R s m args below meth c H locs cells slots Q lsA base b hx hb ho ht hl k => lv_lconst hx hb hd hv k) k
theorem zload {base b nL i : Nat} {ls : List Value} {lsA : Array Slot} {v : Value} (hl : zL base b nL ls lsA) (h : ls[i]? = some v) (hv : ∀ r, v ≠ Value.retAddr r) : lsA[i]? = some (.val (zV base b v)) := hl.2.2.2.1 i v h hv
theorem n_iload_n {md : zM} {pc i : Nat} {j : Fin 4} (hj : (j : Nat) = i) (hd : decode md.2.1 pc = .ok (.iload_n j, 1)) : zS md pc (pc + 1) (i_iload i) := by
  intro d f ⟨ls, st, M, N, S⟩ r h k
  unfold i_iload at h
  dsimp only at h
  split at h
  · rename_i x hx0
    cases h
    exact zG_simple (fun p l e R s m args below meth c H locs cells slots Q lsA base b hx hb ho ht hl k => lv_iload_n hx hb hd hj (zload hl hx0 (by intro r; simp)) k) k
  · cases h
theorem n_iload {md : zM} {pc i : Nat} (hd : decode md.2.1 pc = .ok (.iload i, 2)) : zS md pc (pc + 2) (i_iload i) := by
  intro d f ⟨ls, st, M, N, S⟩ r h k
  unfold i_iload at h
  dsimp only at h
  split at h
  · rename_i x hx0
    cases h
    exact zG_simple (fun p l e R s m args below meth c H locs cells slots Q lsA base b hx hb ho ht hl k => lv_iload hx hb hd (zload hl hx0 (by intro r; simp)) k) k
  · cases h
theorem n_lload_n {md : zM} {pc i : Nat} {j : Fin 4} (hj : (j : Nat) = i) (hd : decode md.2.1 pc = .ok (.lload_n j, 1)) : zS md pc (pc + 1) (i_lload i) := by
  intro d f ⟨ls, st, M, N, S⟩ r h k
  unfold i_lload at h
  dsimp only at h
  split at h
  · rename_i x hx0
    cases h
    exact zG_simple (fun p l e R s m args below meth c H locs cells slots Q lsA base b hx hb ho ht hl k => lv_lload_n hx hb hd hj (zload hl hx0 (by intro r; simp)) k) k
  · cases h
theorem n_aload_n {md : zM} {pc i : Nat} {j : Fin 4} (hj : (j : Nat) = i) (hd : decode md.2.1 pc = .ok (.aload_n j, 1)) : zS md pc (pc + 1) (i_aload i) := by
  intro d f ⟨ls, st, M, N, S⟩ r h k
  unfold i_aload at h
  dsimp only at h
  split at h
  · rename_i x hx0
    cases h
    exact zG_simple (fun p l e R s m args below meth c H locs cells slots Q lsA base b hx hb ho ht hl k => lv_aload_n hx hb hd hj (zload hl hx0 (by intro r; simp)) k) k
  · cases h
theorem n_aload {md : zM} {pc i : Nat} (hd : decode md.2.1 pc = .ok (.aload i, 2)) : zS md pc (pc + 2) (i_aload i) := by
  intro d f ⟨ls, st, M, N, S⟩ r h k
  unfold i_aload at h
  dsimp only at h
  split at h
  · rename_i x hx0
    cases h
    exact zG_simple (fun p l e R s m args below meth c H locs cells slots Q lsA base b hx hb ho ht hl k => lv_aload hx hb hd (zload hl hx0 (by intro r; simp)) k) k
  · cases h
theorem n_iadd {md : zM} {pc : Nat} (hd : decode md.2.1 pc = .ok (.iadd, 1)) : zS md pc (pc + 1) (i_bin (fun x y => x + y)) := by
  intro d f ⟨ls, st, M, N, S⟩ r h k
  unfold i_bin at h
  dsimp only at h
  split at h
  · cases h
    exact zG_simple (fun p l e R s m args below meth c H locs cells slots Q lsA base b hx hb ho ht hl k => lv_iadd hx hb hd k) k
  · cases h
theorem n_isub {md : zM} {pc : Nat} (hd : decode md.2.1 pc = .ok (.isub, 1)) : zS md pc (pc + 1) (i_bin (fun x y => x - y)) := by
  intro d f ⟨ls, st, M, N, S⟩ r h k
  unfold i_bin at h
  dsimp only at h
  split at h
  · cases h
    exact zG_simple (fun p l e R s m args below meth c H locs cells slots Q lsA base b hx hb ho ht hl k => lv_isub hx hb hd k) k
  · cases h
theorem n_imul {md : zM} {pc : Nat} (hd : decode md.2.1 pc = .ok (.imul, 1)) : zS md pc (pc + 1) (i_bin (fun x y => x * y)) := by
  intro d f ⟨ls, st, M, N, S⟩ r h k
  unfold i_bin at h
  dsimp only at h
  split at h
  · cases h
    exact zG_simple (fun p l e R s m args below meth c H locs cells slots Q lsA base b hx hb ho ht hl k => lv_imul hx hb hd k) k
  · cases h
theorem n_iand {md : zM} {pc : Nat} (hd : decode md.2.1 pc = .ok (.iand, 1)) : zS md pc (pc + 1) (i_bin (fun x y => x &&& y)) := by
  intro d f ⟨ls, st, M, N, S⟩ r h k
  unfold i_bin at h
  dsimp only at h
  split at h
  · cases h
    exact zG_simple (fun p l e R s m args below meth c H locs cells slots Q lsA base b hx hb ho ht hl k => lv_iand hx hb hd k) k
  · cases h
theorem n_ior {md : zM} {pc : Nat} (hd : decode md.2.1 pc = .ok (.ior, 1)) : zS md pc (pc + 1) (i_bin (fun x y => x ||| y)) := by
  intro d f ⟨ls, st, M, N, S⟩ r h k
  unfold i_bin at h
  dsimp only at h
  split at h
  · cases h
    exact zG_simple (fun p l e R s m args below meth c H locs cells slots Q lsA base b hx hb ho ht hl k => lv_ior hx hb hd k) k
  · cases h
theorem n_ixor {md : zM} {pc : Nat} (hd : decode md.2.1 pc = .ok (.ixor, 1)) : zS md pc (pc + 1) (i_bin (fun x y => x ^^^ y)) := by
  intro d f ⟨ls, st, M, N, S⟩ r h k
  unfold i_bin at h
  dsimp only at h
  split at h
  · cases h
    exact zG_simple (fun p l e R s m args below meth c H locs cells slots Q lsA base b hx hb ho ht hl k => lv_ixor hx hb hd k) k
  · cases h
theorem n_ishl {md : zM} {pc : Nat} (hd : decode md.2.1 pc = .ok (.ishl, 1)) : zS md pc (pc + 1) (i_bin (fun x y => x <<< (y &&& 31))) := by
  intro d f ⟨ls, st, M, N, S⟩ r h k
  unfold i_bin at h
  dsimp only at h
  split at h
  · cases h
    exact zG_simple (fun p l e R s m args below meth c H locs cells slots Q lsA base b hx hb ho ht hl k => lv_ishl hx hb hd k) k
  · cases h
theorem n_ishr {md : zM} {pc : Nat} (hd : decode md.2.1 pc = .ok (.ishr, 1)) : zS md pc (pc + 1) (i_bin (fun x y => x >>> (y &&& 31))) := by
  intro d f ⟨ls, st, M, N, S⟩ r h k
  unfold i_bin at h
  dsimp only at h
  split at h
  · cases h
    exact zG_simple (fun p l e R s m args below meth c H locs cells slots Q lsA base b hx hb ho ht hl k => lv_ishr hx hb hd k) k
  · cases h
theorem n_iushr {md : zM} {pc : Nat} (hd : decode md.2.1 pc = .ok (.iushr, 1)) : zS md pc (pc + 1) (i_bin (fun x y => (x.toUInt32 >>> (y.toUInt32 &&& Int32.toUInt32 31)).toInt32)) := by
  intro d f ⟨ls, st, M, N, S⟩ r h k
  unfold i_bin at h
  dsimp only at h
  split at h
  · cases h
    exact zG_simple (fun p l e R s m args below meth c H locs cells slots Q lsA base b hx hb ho ht hl k => lv_iushr hx hb hd rfl k) k
  · cases h
theorem n_idiv {md : zM} {pc : Nat} (hd : decode md.2.1 pc = .ok (.idiv, 1)) : zS md pc (pc + 1) (i_div (fun x y => x / y)) := by
  intro d f ⟨ls, st, M, N, S⟩ r h k
  unfold i_div at h
  dsimp only at h
  split at h
  · split at h
    · cases h
    · rename_i hne
      cases h
      exact zG_simple (fun p l e R s m args below meth c H locs cells slots Q lsA base b hx hb ho ht hl k => lv_idiv hx hb hd hne k) k
  · cases h
theorem n_irem {md : zM} {pc : Nat} (hd : decode md.2.1 pc = .ok (.irem, 1)) : zS md pc (pc + 1) (i_div (fun x y => x - x / y * y)) := by
  intro d f ⟨ls, st, M, N, S⟩ r h k
  unfold i_div at h
  dsimp only at h
  split at h
  · split at h
    · cases h
    · rename_i hne
      cases h
      exact zG_simple (fun p l e R s m args below meth c H locs cells slots Q lsA base b hx hb ho ht hl k => lv_irem hx hb hd hne k) k
  · cases h
theorem n_i2b {md : zM} {pc : Nat} (hd : decode md.2.1 pc = .ok (.i2b, 1)) : zS md pc (pc + 1) (i_un (fun x => x.toInt8.toInt32)) := by
  intro d f ⟨ls, st, M, N, S⟩ r h k
  unfold i_un at h
  dsimp only at h
  split at h
  · cases h
    exact zG_simple (fun p l e R s m args below meth c H locs cells slots Q lsA base b hx hb ho ht hl k => lv_i2b hx hb hd rfl k) k
  · cases h
theorem n_ladd {md : zM} {pc : Nat} (hd : decode md.2.1 pc = .ok (.ladd, 1)) : zS md pc (pc + 1) i_ladd := by
  intro d f ⟨ls, st, M, N, S⟩ r h k
  unfold i_ladd at h
  dsimp only at h
  split at h
  · cases h
    exact zG_simple (fun p l e R s m args below meth c H locs cells slots Q lsA base b hx hb ho ht hl k => lv_ladd hx hb hd k) k
  · cases h
theorem n_lcmp {md : zM} {pc : Nat} (hd : decode md.2.1 pc = .ok (.lcmp, 1)) : zS md pc (pc + 1) i_lcmp := by
  intro d f ⟨ls, st, M, N, S⟩ r h k
  unfold i_lcmp at h
  dsimp only at h
  split at h
  · cases h
    exact zG_simple (fun p l e R s m args below meth c H locs cells slots Q lsA base b hx hb ho ht hl k => W.lcmp hx hb hd k) k
  · cases h
theorem z1_cat {base b : Nat} {v : Value} (h : z1 v = true) : (zV base b v).category = 1 := by
  cases v <;> first | rfl | cases h
theorem n_dup {md : zM} {pc : Nat} (hd : decode md.2.1 pc = .ok (.dup, 1)) : zS md pc (pc + 1) i_dup := by
  intro d f ⟨ls, st, M, N, S⟩ r h k
  unfold i_dup at h
  dsimp only at h
  split at h
  · split at h
    · rename_i h1
      cases h
      exact zG_simple (fun p l e R s m args below meth c H locs cells slots Q lsA base b hx hb ho ht hl k => lv_dup hx hb hd (z1_cat h1) k) k
    · cases h
  · cases h
theorem n_pop {md : zM} {pc : Nat} (hd : decode md.2.1 pc = .ok (.pop, 1)) : zS md pc (pc + 1) i_pop := by
  intro d f ⟨ls, st, M, N, S⟩ r h k
  unfold i_pop at h
  dsimp only at h
  split at h
  · split at h
    · rename_i h1
      cases h
      exact zG_simple (fun p l e R s m args below meth c H locs cells slots Q lsA base b hx hb ho ht hl k => lv_pop hx hb hd (z1_cat h1) k) k
    · cases h
  · cases h
theorem n_dup2 {md : zM} {pc : Nat} (hd : decode md.2.1 pc = .ok (.dup2, 1)) : zS md pc (pc + 1) i_dup2 := by
  intro d f ⟨ls, st, M, N, S⟩ r h k
  unfold i_dup2 at h
  dsimp only at h
  split at h
  · split at h
    · rename_i h1
      cases h
      rw [Bool.and_eq_true] at h1
      exact zG_simple (fun p l e R s m args below meth c H locs cells slots Q lsA base b hx hb ho ht hl k => lv_dup2_11 hx hb hd (z1_cat h1.1) (z1_cat h1.2) k) k
    · cases h
  · cases h
/-- two ways on -/
theorem zG_two {d : Nat} {md : zM} {pc pt pf : Nat} {ls st st' : List Value} {M : zHp} {N S : Nat} {f : zF} {t : Bool}
    (h : ∀ (p : Program) (l : Launch) (e : Env) (R : Room) (s : State) (m : MethodId) (args : Array Value) (below : List Frame) (meth : Method) (c : Code) (H : Heap) (locs : List Loc) (cells slots : Nat) (Q : State → Prop) (lsA : Array Slot) (base b : Nat), p.tables.exec = Jvm.exec → c.code = md.2.1 →
      (t = true → W p l e R s m args below meth c H locs cells slots Q (F0 m pt lsA (st'.map (zV base b)))) → (t = false → W p l e R s m args below meth c H locs cells slots Q (F0 m pf lsA (st'.map (zV base b)))) → W p l e R s m args below meth c H locs cells slots Q (F0 m pc lsA (st.map (zV base b))))
    (k : if t = true then zGo d md pt (ls, st', M, N, S) f else zGo d md pf (ls, st', M, N, S) f) : zGo d md pc (ls, st, M, N, S) f := by
  cases t with
  | true =>
    have k : zGo d md pt (ls, st', M, N, S) f := k
    exact ⟨k.1, k.2.1, fun p l e R s m args below meth c D aC base b L xs n0 s0 F hx hn hs H locs lsA hw hl => h p l e R s m args below meth c H locs _ _ _ lsA base b hx.1 hx.2.1 (fun _ => k.2.2 p l e R s m args below meth c D aC base b L xs n0 s0 F hx hn hs H locs lsA hw hl) (fun h => by cases h)⟩
  | false =>
    have k : zGo d md pf (ls, st', M, N, S) f := k
    exact ⟨k.1, k.2.1, fun p l e R s m args below meth c D aC base b L xs n0 s0 F hx hn hs H locs lsA hw hl => h p l e R s m args below meth c H locs _ _ _ lsA base b hx.1 hx.2.1 (fun h => by cases h) (fun _ => k.2.2 p l e R s m args below meth c D aC base b L xs n0 s0 F hx hn hs H locs lsA hw hl)⟩
theorem n_if_eq {md : zM} {pc tgt : Nat} {off : Int} (ht0 : (pc : Int) + off = (tgt : Int)) (hd : decode md.2.1 pc = .ok (.ifCond .eq off, 3)) : zS md pc (pc + 3) (i_if (fun x => decide (x = 0)) tgt) := by
  intro d f ⟨ls, st, M, N, S⟩ r h k
  unfold i_if at h
  dsimp only at h
  split at h
  · cases h
    exact zG_two (fun p l e R s m args below meth c H locs cells slots Q lsA base b hx hb kt kf => lv_if_eq hx hb hd ht0 (fun h => kt (decide_eq_true h)) (fun h => kf (decide_eq_false h))) k
  · cases h
theorem n_icmp_eq {md : zM} {pc tgt : Nat} {off : Int} (ht0 : (pc : Int) + off = (tgt : Int)) (hd : decode md.2.1 pc = .ok (.if_icmp .eq off, 3)) : zS md pc (pc + 3) (i_icmp (fun x y => decide (x = y)) tgt) := by
  intro d f ⟨ls, st, M, N, S⟩ r h k
  unfold i_icmp at h
  dsimp only at h
  split at h
  · cases h
    exact zG_two (fun p l e R s m args below meth c H locs cells slots Q lsA base b hx hb kt kf => lv_icmp_eq hx hb hd ht0 (fun h => kt (decide_eq_true h)) (fun h => kf (decide_eq_false h))) k
  · cases h
theorem n_if_ne {md : zM} {pc tgt : Nat} {off : Int} (ht0 : (pc : Int) + off = (tgt : Int)) (hd : decode md.2.1 pc = .ok (.ifCond .ne off, 3)) : zS md pc (pc + 3) (i_if (fun x => decide (¬ x = 0)) tgt) := by
  intro d f ⟨ls, st, M, N, S⟩ r h k
  unfold i_if at h
  dsimp only at h
  split at h
  · cases h
    exact zG_two (fun p l e R s m args below meth c H locs cells slots Q lsA base b hx hb kt kf => lv_if_ne hx hb hd ht0 (fun h => kt (decide_eq_true h)) (fun h => kf (decide_eq_false (fun g => g h)))) k
  · cases h
theorem n_icmp_ne {md : zM} {pc tgt : Nat} {off : Int} (ht0 : (pc : Int) + off = (tgt : Int)) (hd : decode md.2.1 pc = .ok (.if_icmp .ne off, 3)) : zS md pc (pc + 3) (i_icmp (fun x y => decide (¬ x = y)) tgt) := by
  intro d f ⟨ls, st, M, N, S⟩ r h k
  unfold i_icmp at h
  dsimp only at h
  split at h
  · cases h
    exact zG_two (fun p l e R s m args below meth c H locs cells slots Q lsA base b hx hb kt kf => lv_icmp_ne hx hb hd ht0 (fun h => kt (decide_eq_true h)) (fun h => kf (decide_eq_false (fun g => g h)))) k
  · cases h
theorem n_if_lt {md : zM} {pc tgt : Nat} {off : Int} (ht0 : (pc : Int) + off = (tgt : Int)) (hd : decode md.2.1 pc = .ok (.ifCond .lt off, 3)) : zS md pc (pc + 3) (i_if (fun x => decide (x < 0)) tgt) := by
  intro d f ⟨ls, st, M, N, S⟩ r h k
  unfold i_if at h
  dsimp only at h
  split at h
  · cases h
    exact zG_two (fun p l e R s m args below meth c H locs cells slots Q lsA base b hx hb kt kf => lv_if_lt hx hb hd ht0 (fun h => kt (decide_eq_true h)) (fun h => kf (decide_eq_false h))) k
  · cases h
theorem n_icmp_lt {md : zM} {pc tgt : Nat} {off : Int} (ht0 : (pc : Int) + off = (tgt : Int)) (hd : decode md.2.1 pc = .ok (.if_icmp .lt off, 3)) : zS md pc (pc + 3) (i_icmp (fun x y => decide (x < y)) tgt) := by
  intro d f ⟨ls, st, M, N, S⟩ r h k
  unfold i_icmp at h
  dsimp only at h
  split at h
  · cases h
    exact zG_two (fun p l e R s m args below meth c H locs cells slots Q lsA base b hx hb kt kf => lv_icmp_lt hx hb hd ht0 (fun h => kt (decide_eq_true h)) (fun h => kf (decide_eq_false h))) k
  · cases h
theorem n_if_ge {md : zM} {pc tgt : Nat} {off : Int} (ht0 : (pc : Int) + off = (tgt : Int)) (hd : decode md.2.1 pc = .ok (.ifCond .ge off, 3)) : zS md pc (pc + 3) (i_if (fun x => decide (0 ≤ x)) tgt) := by
  intro d f ⟨ls, st, M, N, S⟩ r h k
  unfold i_if at h
  dsimp only at h
  split at h
  · cases h
    exact zG_two (fun p l e R s m args below meth c H locs cells slots Q lsA base b hx hb kt kf => lv_if_ge hx hb hd ht0 (fun h => kt (decide_eq_true h)) (fun h => kf (decide_eq_false h))) k
  · cases h
theorem n_icmp_ge {md : zM} {pc tgt : Nat} {off : Int} (ht0 : (pc : Int) + off = (tgt : Int)) (hd : decode md.2.1 pc = .ok (.if_icmp .ge off, 3)) : zS md pc (pc + 3) (i_icmp (fun x y => decide (y ≤ x)) tgt) := by
  intro d f ⟨ls, st, M, N, S⟩ r h k
  unfold i_icmp at h
  dsimp only at h
  split at h
  · cases h
    exact zG_two (fun p l e R s m args below meth c H locs cells slots Q lsA base b hx hb kt kf => lv_icmp_ge hx hb hd ht0 (fun h => kt (decide_eq_true h)) (fun h => kf (decide_eq_false h))) k
  · cases h
theorem n_if_gt {md : zM} {pc tgt : Nat} {off : Int} (ht0 : (pc : Int) + off = (tgt : Int)) (hd : decode md.2.1 pc = .ok (.ifCond .gt off, 3)) : zS md pc (pc + 3) (i_if (fun x => decide (0 < x)) tgt) := by
  intro d f ⟨ls, st, M, N, S⟩ r h k
  unfold i_if at h
  dsimp only at h
  split at h
  · cases h
    exact zG_two (fun p l e R s m args below meth c H locs cells slots Q lsA base b hx hb kt kf => lv_if_gt hx hb hd ht0 (fun h => kt (decide_eq_true h)) (fun h => kf (decide_eq_false h))) k
  · cases h
theorem n_icmp_gt {md : zM} {pc tgt : Nat} {off : Int} (ht0 : (pc : Int) + off = (tgt : Int)) (hd : decode md.2.1 pc = .ok (.if_icmp .gt off, 3)) : zS md pc (pc + 3) (i_icmp (fun x y => decide (y < x)) tgt) := by
  intro d f ⟨ls, st, M, N, S⟩ r h k
  unfold i_icmp at h
  dsimp only at h
  split at h
  · cases h
    exact zG_two (fun p l e R s m args below meth c H locs cells slots Q lsA base b hx hb kt kf => lv_icmp_gt hx hb hd ht0 (fun h => kt (decide_eq_true h)) (fun h => kf (decide_eq_false h))) k
  · cases h
theorem n_if_le {md : zM} {pc tgt : Nat} {off : Int} (ht0 : (pc : Int) + off = (tgt : Int)) (hd : decode md.2.1 pc = .ok (.ifCond .le off, 3)) : zS md pc (pc + 3) (i_if (fun x => decide (x ≤ 0)) tgt) := by
  intro d f ⟨ls, st, M, N, S⟩ r h k
  unfold i_if at h
  dsimp only at h
  split at h
  · cases h
    exact zG_two (fun p l e R s m args below meth c H locs cells slots Q lsA base b hx hb kt kf => lv_if_le hx hb hd ht0 (fun h => kt (decide_eq_true h)) (fun h => kf (decide_eq_false h))) k
  · cases h
theorem n_icmp_le {md : zM} {pc tgt : Nat} {off : Int} (ht0 : (pc : Int) + off = (tgt : Int)) (hd : decode md.2.1 pc = .ok (.if_icmp .le off, 3)) : zS md pc (pc + 3) (i_icmp (fun x y => decide (x ≤ y)) tgt) := by
  intro d f ⟨ls, st, M, N, S⟩ r h k
  unfold i_icmp at h
  dsimp only at h
  split at h
  · cases h
    exact zG_two (fun p l e R s m args below meth c H locs cells slots Q lsA base b hx hb kt kf => lv_icmp_le hx hb hd ht0 (fun h => kt (decide_eq_true h)) (fun h => kf (decide_eq_false h))) k
  · cases h
