/-! stores into locals, jumps, returns -/
theorem zset_spec : ∀ {ls : List Value} {i : Nat} {v : Value} {ls' : List Value}, zset ls i v = some ls' → i < ls.length ∧ ls[i]? ≠ some (.retAddr 1) ∧ ls' = ls.set i v
  | [], _, _, _, h => by cases h
  | w :: ls, 0, v, ls', h => by
    unfold zset at h
    split at h
    · cases h
    · rename_i hw
      cases h
      exact ⟨by simp, by simpa using hw, rfl⟩
  | w :: ls, i + 1, v, ls', h => by
    unfold zset at h
    cases hz : zset ls i v with
    | none => rw [hz] at h; cases h
    | some l =>
      rw [hz] at h
      cases h
      obtain ⟨h1, h2, h3⟩ := zset_spec hz
      exact ⟨by simpa using h1, by simpa using h2, by simp [h3]⟩
def zlv (base b : Nat) (ls : List Value) : List (Nat × Value) := (List.range ls.length).filterMap fun i => match ls[i]? with
  | some (Value.retAddr _) => none
  | some v => some (i, zV base b v)
  | none => none
theorem zlv_mem {base b : Nat} {ls : List Value} {q : Nat × Value} : q ∈ zlv base b ls ↔ ∃ v, ls[q.1]? = some v ∧ (∀ r, v ≠ Value.retAddr r) ∧ q.2 = zV base b v := by
  unfold zlv
  rw [List.mem_filterMap]
  constructor
  · rintro ⟨i, -, h⟩
    split at h
    · cases h
    · rename_i v hv hn
      cases h
      exact ⟨v, hn, fun r e => hv r e, rfl⟩
    · cases h
  · rintro ⟨v, h1, h2, h3⟩
    refine ⟨q.1, List.mem_range.mpr (List.getElem?_eq_some_iff.mp h1).1, ?_⟩
    rw [h1]
    cases v with
    | retAddr r => exact absurd rfl (h2 r)
    | _ => simp only; rw [← h3]
theorem zL_has {base b nL : Nat} {ls : List Value} {lsA : Array Slot} (h : zL base b nL ls lsA) : lv_has lsA nL (zlv base b ls) :=
  ⟨h.2.1, h.2.2.1, fun q hq => by
    obtain ⟨v, h1, h2, h3⟩ := zlv_mem.mp hq
    rw [h3]
    exact h.2.2.2.1 q.1 v h1 h2⟩
theorem zV_cat (base b : Nat) (v : Value) : (zV base b v).category = v.category := by cases v <;> rfl
theorem zL_put {base b nL i : Nat} {ls ls' : List Value} {lsA lsB : Array Slot} {v : Value} (h : zL base b nL ls lsA) (hz : zset ls i v = some ls') (hv : z1 v = true)
    (hB : lv_has lsB nL ((i, zV base b v) :: (zlv base b ls).filter (fun q => !(q.1 == i) && !(q.1 + 1 == i && q.2.category == 2)))) : zL base b nL ls' lsB := by
  obtain ⟨hi, hne, rfl⟩ := zset_spec hz
  obtain ⟨g1, g2, g3⟩ := hB
  obtain ⟨h1, h2, h3, h4, h5, h6⟩ := h
  refine ⟨by rw [List.length_set]; exact h1, g1, g2, fun j w hj hw => ?_, fun j x hj => ?_, fun j x hj => ?_⟩
  · rw [List.getElem?_set] at hj
    by_cases e : i = j
    · subst e
      rw [if_pos rfl, if_pos hi] at hj
      cases hj
      exact g3 (i, zV base b v) List.mem_cons_self
    · rw [if_neg e] at hj
      refine g3 (j, zV base b w) (List.mem_cons_of_mem _ (List.mem_filter.mpr ⟨zlv_mem.mpr ⟨w, hj, hw, rfl⟩, ?_⟩))
      have hne2 : (j == i) = false := by simpa using fun e2 : j = i => e e2.symm
      rw [hne2]
      by_cases e3 : j + 1 = i
      · have : (zV base b w).category ≠ 2 := by
          rw [zV_cat]
          cases w with
          | long x => exact absurd (h5 j x hj) (by rw [e3]; exact hne)
          | double x => exact absurd hj (h6 j x)
          | _ => simp [Value.category]
        simp [this]
      · simp [e3]
  · rw [List.getElem?_set] at hj ⊢
    by_cases e : i = j
    · subst e
      rw [if_pos rfl, if_pos hi] at hj
      cases hj
      cases hv
    · rw [if_neg e] at hj
      have hj2 := h5 j x hj
      by_cases e2 : i = j + 1
      · subst e2
        exact absurd hj2 hne
      · rw [if_neg e2]
        exact hj2
  · rw [List.getElem?_set] at hj
    by_cases e : i = j
    · subst e
      rw [if_pos rfl, if_pos hi] at hj
      cases hj
      cases hv
    · rw [if_neg e] at hj
      exact h6 j x hj
/-- an instruction that changes the locals -/
theorem zG_loc {d : Nat} {md : zM} {pc pc' : Nat} {ls ls' st st' : List Value} {M : zHp} {N S : Nat} {f : zF}
    (h : ∀ (p : Program) (l : Launch) (e : Env) (R : Room) (s : State) (m : MethodId) (args : Array Value) (below : List Frame) (meth : Method) (c : Code) (H : Heap) (locs : List Loc) (cells slots : Nat) (Q : State → Prop) (lsA : Array Slot) (base b : Nat), p.tables.exec = Jvm.exec → c.code = md.2.1 → zL base b md.2.2.1 ls lsA →
      (∀ lsB, zL base b md.2.2.1 ls' lsB → W p l e R s m args below meth c H locs cells slots Q (F0 m pc' lsB (st'.map (zV base b)))) → W p l e R s m args below meth c H locs cells slots Q (F0 m pc lsA (st.map (zV base b))))
    (k : zGo d md pc' (ls', st', M, N, S) f) : zGo d md pc (ls, st, M, N, S) f :=
  ⟨k.1, k.2.1, fun p l e R s m args below meth c D aC base b L xs n0 s0 F hx hn hs H locs lsA hw hl => h p l e R s m args below meth c H locs _ _ _ lsA base b hx.1 hx.2.1 hl (fun lsB hl => k.2.2 p l e R s m args below meth c D aC base b L xs n0 s0 F hx hn hs H locs lsB hw hl)⟩
theorem n_istore_n {md : zM} {pc i : Nat} {j : Fin 4} (hj : (j : Nat) = i) (hd : decode md.2.1 pc = .ok (.istore_n j, 1)) : zS md pc (pc + 1) (i_istore i) := by
  intro d f ⟨ls, st, M, N, S⟩ r h k
  unfold i_istore at h
  dsimp only at h
  split at h
  · rename_i x st
    obtain ⟨ls', hz, rfl⟩ := Option.map_eq_some_iff.mp h
    exact zG_loc (fun p l e R s m args below meth c H locs cells slots Q lsA base b hx hb hl k => lv_istore_n hx hb hd hj (zL_has hl) (by have := (zset_spec hz).1; rw [← hl.1]; exact this) rfl (fun lsB hB => k lsB (zL_put hl hz rfl hB))) k
  · cases h
theorem n_istore {md : zM} {pc i : Nat} (hd : decode md.2.1 pc = .ok (.istore i, 2)) : zS md pc (pc + 2) (i_istore i) := by
  intro d f ⟨ls, st, M, N, S⟩ r h k
  unfold i_istore at h
  dsimp only at h
  split at h
  · rename_i x st
    obtain ⟨ls', hz, rfl⟩ := Option.map_eq_some_iff.mp h
    exact zG_loc (fun p l e R s m args below meth c H locs cells slots Q lsA base b hx hb hl k => lv_istore hx hb hd (zL_has hl) (by have := (zset_spec hz).1; rw [← hl.1]; exact this) rfl (fun lsB hB => k lsB (zL_put hl hz rfl hB))) k
  · cases h
theorem n_astore_n {md : zM} {pc i : Nat} {j : Fin 4} (hj : (j : Nat) = i) (hd : decode md.2.1 pc = .ok (.astore_n j, 1)) : zS md pc (pc + 1) (i_astore i) := by
  intro d f ⟨ls, st, M, N, S⟩ r h k
  unfold i_astore at h
  dsimp only at h
  split at h
  · rename_i x st
    obtain ⟨ls', hz, rfl⟩ := Option.map_eq_some_iff.mp h
    exact zG_loc (fun p l e R s m args below meth c H locs cells slots Q lsA base b hx hb hl k => lv_astore_n hx hb hd hj (zL_has hl) (by have := (zset_spec hz).1; rw [← hl.1]; exact this) rfl (fun lsB hB => k lsB (zL_put (v := .ref x) hl hz rfl hB))) k
  · cases h
theorem zlv_place {base b nL i : Nat} {ls : List Value} {lsA : Array Slot} {v : Value} (_ : zL base b nL ls lsA) (h : ls[i]? = some v) (hv : ∀ r, v ≠ Value.retAddr r) : ∃ k : Nat, (zlv base b ls)[k]? = some (i, zV base b v) :=
  List.getElem?_of_mem (zlv_mem.mpr ⟨v, h, hv, rfl⟩)
theorem n_iinc {md : zM} {pc i : Nat} {n : Int} {v : Int32} (hv : Int32.ofInt n = v) (hd : decode md.2.1 pc = .ok (.iinc i n, 3)) : zS md pc (pc + 3) (i_iinc i v) := by
  intro d f ⟨ls, st, M, N, S⟩ r h k
  unfold i_iinc at h
  dsimp only at h
  split at h
  · rename_i x hx0
    obtain ⟨ls', hz, rfl⟩ := Option.map_eq_some_iff.mp h
    refine zG_loc (fun p l e R s m args below meth c H locs cells slots Q lsA base b hx hb hl k => ?_) k
    obtain ⟨j, hj⟩ := zlv_place hl hx0 (by intro r; simp)
    exact lv_iinc hx hb hd (zL_has hl) hj (by rw [hv]) (by have := (zset_spec hz).1; rw [← hl.1]; exact this) rfl (fun lsB hB => k lsB (zL_put hl hz rfl hB))
  · cases h
theorem n_lstore_n {md : zM} {pc i : Nat} {j : Fin 4} (hj : (j : Nat) = i) (hd : decode md.2.1 pc = .ok (.lstore_n j, 1)) : zS md pc (pc + 1) (i_lstore i) := by
  intro d f ⟨ls, st, M, N, S⟩ r h k
  unfold i_lstore at h
  dsimp only at h
  split at h
  · rename_i x st
    obtain ⟨ls', hz, h⟩ := Option.bind_eq_some_iff.mp h
    split at h
    · rename_i hlen
      cases h
      obtain ⟨hi, hne, rfl⟩ := zset_spec hz
      refine zG_loc (fun p l e R s m args below meth c H locs cells slots Q lsA base b hx hb hl k => lv_lstore_n hx hb hd hj (zL_has hl) (by rw [← hl.1]; exact hlen) rfl (fun lsB hB => k lsB ?_)) k
      obtain ⟨g1, g2, g3⟩ := hB
      obtain ⟨h1, h2, h3, h4, h5, h6⟩ := hl
      refine ⟨by rw [List.length_set, List.length_set]; exact h1, g1, g2, fun j w hj hw => ?_, fun j y hj => ?_, fun j y hj => ?_⟩
      · rw [List.getElem?_set] at hj
        by_cases e : i + 1 = j
        · subst e
          rw [if_pos rfl, if_pos (by rw [List.length_set]; exact hlen)] at hj
          cases hj
          exact absurd rfl (hw 1)
        · rw [if_neg e, List.getElem?_set] at hj
          by_cases e2 : i = j
          · subst e2
            rw [if_pos rfl, if_pos hi] at hj
            cases hj
            exact g3 (i, Value.long x) List.mem_cons_self
          · rw [if_neg e2] at hj
            refine g3 (j, zV base b w) (List.mem_cons_of_mem _ (List.mem_filter.mpr ⟨zlv_mem.mpr ⟨w, hj, hw, rfl⟩, ?_⟩))
            have hne2 : (j == i) = false := by simpa using fun q : j = i => e2 q.symm
            have hne3 : (j == i + 1) = false := by simpa using fun q : j = i + 1 => e q.symm
            rw [hne2, hne3]
            by_cases e3 : j + 1 = i
            · have : (zV base b w).category ≠ 2 := by
                rw [zV_cat]
                cases w with
                | long x => exact absurd (h5 j x hj) (by rw [e3]; exact hne)
                | double x => exact absurd hj (h6 j x)
                | _ => simp [Value.category]
              simp [this]
            · simp [e3]
      · rw [List.getElem?_set] at hj
        by_cases e : i + 1 = j
        · subst e
          rw [if_pos rfl, if_pos (by rw [List.length_set]; exact hlen)] at hj
          cases hj
        · rw [if_neg e, List.getElem?_set] at hj
          rw [List.getElem?_set]
          by_cases e2 : i = j
          · subst e2
            rw [if_pos rfl, if_pos (by rw [List.length_set]; exact hlen)]
          · rw [if_neg e2] at hj
            have hq := h5 j y hj
            by_cases e4 : i + 1 = j + 1
            · omega
            · rw [if_neg e4, List.getElem?_set]
              by_cases e5 : i = j + 1
              · subst e5
                exact absurd hq hne
              · rw [if_neg e5]
                exact hq
      · rw [List.getElem?_set] at hj
        by_cases e : i + 1 = j
        · subst e
          rw [if_pos rfl, if_pos (by rw [List.length_set]; exact hlen)] at hj
          cases hj
        · rw [if_neg e, List.getElem?_set] at hj
          by_cases e2 : i = j
          · subst e2
            rw [if_pos rfl, if_pos hi] at hj
            cases hj
          · rw [if_neg e2] at hj
            exact h6 j y hj
    · cases h
  · cases h
theorem n_goto {md : zM} {pc tgt : Nat} {off : Int} (ht0 : (pc : Int) + off = (tgt : Int)) (hd : decode md.2.1 pc = .ok (.goto off, 3)) (pc' : Nat) : zS md pc pc' (i_goto tgt) := by
  intro d f ⟨ls, st, M, N, S⟩ r h k
  cases h
  exact zG_simple (fun p l e R s m args below meth c H locs cells slots Q lsA base b hx hb ho ht hl k => lv_goto hx hb hd ht0 k) k
/-- nothing stands there: the next row of instructions goes on -/
theorem n_next {md : zM} (pc pc' : Nat) : zS md pc pc' (i_goto pc) := by
  intro d f c r h k
  cases h
  exact k
def zswOk (pc : Nat) (dflt : Int) (ps : List (Int × Int)) (qs : List (Int32 × Nat)) (dt : Nat) : Bool :=
  decide ((pc : Int) + dflt = (dt : Int)) && decide (qs = ps.map (fun a => (Int32.ofInt a.1, ((pc : Int) + a.2).toNat))) && ps.all (fun a => decide (-1000 ≤ a.1) && decide (a.1 ≤ 1000) && decide (0 ≤ (pc : Int) + a.2))
theorem i32_small {k : Int} (h1 : -1000 ≤ k) (h2 : k ≤ 1000) : (Int32.ofInt k).toInt = k := by
  rw [Int32.toInt_ofInt]
  have : Int32.size = 4294967296 := rfl
  rw [this]
  apply Int.bmod_eq_of_le <;> omega
theorem i32_eq {x : Int32} {k : Int} (h1 : -1000 ≤ k) (h2 : k ≤ 1000) : x = Int32.ofInt k ↔ x.toInt = k := by
  constructor
  · rintro rfl
    exact i32_small h1 h2
  · intro h
    apply Int32.toInt_inj.mp
    rw [h, i32_small h1 h2]
theorem zsw_lk (pc : Nat) (dflt : Int) (dt : Nat) (hd : (pc : Int) + dflt = (dt : Int)) (x : Int32) : ∀ (ps : List (Int × Int)), (ps.all (fun a => decide (-1000 ≤ a.1) && decide (a.1 ≤ 1000) && decide (0 ≤ (pc : Int) + a.2)) = true) →
    (pc : Int) + Op.lookupswitch.offset ps dflt x.toInt = ((zsw (ps.map (fun a => (Int32.ofInt a.1, ((pc : Int) + a.2).toNat))) dt x : Nat) : Int)
  | [], _ => by simpa [zsw, Op.lookupswitch.offset] using hd
  | a :: ps, h => by
    rw [List.all_cons, Bool.and_eq_true] at h
    obtain ⟨h0, hr⟩ := h
    simp only [Bool.and_eq_true, decide_eq_true_eq] at h0
    have ih := zsw_lk pc dflt dt hd x ps hr
    have e := @i32_eq x a.1 h0.1.1 h0.1.2
    simp only [List.map_cons, zsw]
    by_cases hx : x = Int32.ofInt a.1
    · rw [if_pos hx]
      have hx2 := e.mp hx
      simp only [Op.lookupswitch.offset, List.find?]
      simp [hx2]
      omega
    · rw [if_neg hx]
      have hx2 : ¬ x.toInt = a.1 := fun q => hx (e.mpr q)
      rw [← ih]
      simp only [Op.lookupswitch.offset, List.find?]
      simp
      exact fun q => absurd q.symm hx2
theorem n_lsw {md : zM} {pc len : Nat} {dflt : Int} {ps : Array (Int × Int)} {qs : List (Int32 × Nat)} {dt : Nat} (hp : (ps.toList.zip (ps.toList.drop 1)).all (fun (a, next) => a.1 < next.1) = true) (hok : zswOk pc dflt ps.toList qs dt = true) (hd : decode md.2.1 pc = .ok (.lookupswitch dflt ps, len)) (pc' : Nat) : zS md pc pc' (i_sw qs dt) := by
  intro d f ⟨ls, st, M, N, S⟩ r h k
  unfold i_sw at h
  dsimp only at h
  simp only [zswOk, Bool.and_eq_true, decide_eq_true_eq] at hok
  obtain ⟨⟨h1, h2⟩, h3⟩ := hok
  split at h
  · rename_i x st
    cases h
    have hz := zsw_lk pc dflt dt h1 x ps.toList (by simpa [Bool.and_eq_true] using h3)
    rw [← h2] at hz
    exact zG_simple (fun p l e R s m args below meth c H locs cells slots Q lsA base b hx hb ho ht hl k => lv_lookup hx hb hd hp rfl hz k) k
  · cases h
theorem zsw_tab (pc : Nat) (dflt : Int) (dt : Nat) (hd : (pc : Int) + dflt = (dt : Int)) (x : Int32) : ∀ (offs : List Int) (lo : Int), ((offs.zipIdx.map (fun a => (lo + (a.2 : Int), a.1))).all (fun a => decide (-1000 ≤ a.1) && decide (a.1 ≤ 1000) && decide (0 ≤ (pc : Int) + a.2)) = true) →
    ∀ qs, qs = (offs.zipIdx.map (fun a => (lo + (a.2 : Int), a.1))).map (fun a => (Int32.ofInt a.1, ((pc : Int) + a.2).toNat)) →
    ((x.toInt < lo ∨ lo + offs.length ≤ x.toInt) → zsw qs dt x = dt) ∧ (∀ off, ¬ x.toInt < lo → offs[(x.toInt - lo).toNat]? = some off → (pc : Int) + off = ((zsw qs dt x : Nat) : Int))
  | [], lo, _, qs, hq => by
    subst hq
    exact ⟨fun _ => rfl, fun off _ h => by simp at h⟩
  | o :: offs, lo, h, qs, hq => by
    have hz : (o :: offs).zipIdx.map (fun a => (lo + (a.2 : Int), a.1)) = (lo, o) :: offs.zipIdx.map (fun a => ((lo + 1) + (a.2 : Int), a.1)) := by
      rw [List.zipIdx_cons, List.map_cons]
      congr 1
      · simp
      · rw [List.zipIdx_succ, List.map_map]
        apply List.map_congr_left
        intro a _
        simp
        omega
    rw [hz] at h hq
    rw [List.all_cons, Bool.and_eq_true] at h
    obtain ⟨h0, hr⟩ := h
    simp only [Bool.and_eq_true, decide_eq_true_eq] at h0
    obtain ⟨i1, i2⟩ := zsw_tab pc dflt dt hd x offs (lo + 1) hr _ rfl
    have e := @i32_eq x lo h0.1.1 h0.1.2
    rw [List.map_cons] at hq
    subst hq
    simp only [zsw]
    by_cases hx : x = Int32.ofInt lo
    · have hx2 := e.mp hx
      rw [if_pos hx]
      refine ⟨fun q => ?_, fun off _ q => ?_⟩
      · simp at q
        omega
      · rw [hx2] at q
        simp at q
        subst q
        omega
    · have hx2 : ¬ x.toInt = lo := fun q => hx (e.mpr q)
      rw [if_neg hx]
      refine ⟨fun q => i1 ?_, fun off g q => i2 off (by omega) ?_⟩
      · simp at q
        omega
      · have : (x.toInt - lo).toNat = (x.toInt - (lo + 1)).toNat + 1 := by omega
        rw [this] at q
        simpa using q
theorem n_tsw {md : zM} {pc len : Nat} {dflt lo hi : Int} {offs : Array Int} {qs : List (Int32 × Nat)} {dt : Nat} (hhi : hi = lo + offs.toList.length - 1) (hok : zswOk pc dflt (offs.toList.zipIdx.map (fun a => (lo + (a.2 : Int), a.1))) qs dt = true) (hd : decode md.2.1 pc = .ok (.tableswitch dflt lo hi offs, len)) (pc' : Nat) : zS md pc pc' (i_sw qs dt) := by
  intro d f ⟨ls, st, M, N, S⟩ r h k
  unfold i_sw at h
  dsimp only at h
  simp only [zswOk, Bool.and_eq_true, decide_eq_true_eq] at hok
  obtain ⟨⟨h1, h2⟩, h3⟩ := hok
  split at h
  · rename_i x st
    cases h
    obtain ⟨z1, z2⟩ := zsw_tab pc dflt dt h1 x offs.toList lo (by simpa [Bool.and_eq_true] using h3) qs h2
    refine zG_simple (fun p l e R s m args below meth c H locs cells slots Q lsA base b hx hb ho ht hl k => ?_) k
    by_cases hin : x.toInt < lo ∨ hi < x.toInt
    · exact lv_tableOut hx hb hd hin (by rw [z1 (by omega)]; exact h1) k
    · have hlt : (x.toInt - lo).toNat < offs.toList.length := by omega
      refine lv_tableIn hx hb hd (fun q => hin (Or.inl q)) (fun q => hin (Or.inr q)) (off := offs.toList[(x.toInt - lo).toNat]) ?_ (z2 _ (fun q => hin (Or.inl q)) (List.getElem?_eq_getElem hlt)) k
      rw [← Array.getElem?_toList]
      exact List.getElem?_eq_getElem hlt
  · cases h
/-- the end of a method -/
theorem zG_ret {d : Nat} {md : zM} {pc : Nat} {ls st : List Value} {M : zHp} {N S : Nat} {v : Option Value}
    (h : ∀ (p : Program) (l : Launch) (e : Env) (R : Room) (s : State) (m : MethodId) (args : Array Value) (below : List Frame) (meth : Method) (c : Code) (H : Heap) (locs : List Loc) (cells slots : Nat) (lsA : Array Slot) (base b : Nat) (Qc : Array Value → State → Outcome → State → Prop), p.tables.exec = Jvm.exec → c.code = md.2.1 → meth.locks = false → meth.sig.returnType = md.2.2.2 →
      (∀ t : State, t.heap = H → s.WarmedH t.vm → Qc args s (.returned (v.map (zV base b))) t) → (∀ q ∈ locs, base ≤ q.base) → W p l e R s m args below meth c H locs cells slots (MQ below Qc args s cells slots (fun q => base ≤ q)) (F0 m pc lsA (st.map (zV base b)))) : zGo d md pc (ls, st, M, N, S) (v, M, N, S) :=
  ⟨Nat.le_refl _, Nat.le_refl _, fun p l e R s m args below meth c D aC base b L xs n0 s0 F hx hn hs H locs lsA hw hl => h p l e R s m args below meth c H locs _ _ lsA base b _ hx.1 hx.2.1 hx.2.2.2.2.2.1 hx.2.2.2.2.2.2.1 (fun t ht _ => ⟨rfl, by rw [ht]; exact hw.1, hw.2.2.1, hw.2.2.2, hw.2.1.F ht⟩) hw.2.1.2.2⟩
theorem n_ret {md : zM} {pc : Nat} (hr : md.2.2.2 = some .int) (hd : decode md.2.1 pc = .ok (.ireturn, 1)) (pc' : Nat) : zS md pc pc' i_ret := by
  intro d f ⟨ls, st, M, N, S⟩ r h k
  unfold i_ret at h
  dsimp only at h
  split at h
  · cases h
    cases k
    exact zG_ret (fun p l e R s m args below meth c H locs cells slots lsA base b Qc hx hb hlk hrt hq hf => W.iret hx hb (by rw [hrt, hr]) hq hf hd hlk)
  · cases h
theorem n_zret {md : zM} {pc : Nat} (hr : md.2.2.2 = some .boolean) (hd : decode md.2.1 pc = .ok (.ireturn, 1)) (pc' : Nat) : zS md pc pc' i_zret := by
  intro d f ⟨ls, st, M, N, S⟩ r h k
  unfold i_zret at h
  dsimp only at h
  split at h
  · split at h
    · rename_i h01
      cases h
      cases k
      exact zG_ret (fun p l e R s m args below meth c H locs cells slots lsA base b Qc hx hb hlk hrt hq hf => W.zret (ty := .boolean) hx hb (by rw [hrt, hr]) (by rcases h01 with h | h <;> subst h <;> decide) hq hf hd hlk)
    · cases h
  · cases h
theorem n_lret {md : zM} {pc : Nat} (hr : md.2.2.2 = some .long) (hd : decode md.2.1 pc = .ok (.lreturn, 1)) (pc' : Nat) : zS md pc pc' i_lret := by
  intro d f ⟨ls, st, M, N, S⟩ r h k
  unfold i_lret at h
  dsimp only at h
  split at h
  · cases h
    cases k
    exact zG_ret (fun p l e R s m args below meth c H locs cells slots lsA base b Qc hx hb hlk hrt hq hf => W.lret hx hb (by rw [hrt, hr]) hq hf hd hlk)
  · cases h
theorem n_vret {md : zM} {pc : Nat} (hr : md.2.2.2 = none) (hd : decode md.2.1 pc = .ok (.return_, 1)) (pc' : Nat) : zS md pc pc' i_vret := by
  intro d f ⟨ls, st, M, N, S⟩ r h k
  unfold i_vret at h
  dsimp only at h
  split at h
  · cases h
    cases k
    exact zG_ret (fun p l e R s m args below meth c H locs cells slots lsA base b Qc hx hb hlk hrt hq hf => W.vret hx hb (by rw [hrt, hr]) hq hf hd hlk)
  · cases h
