/-! calls -/
theorem zgood {md : zM} (h : Cond.code md.1 md.2.1 md.2.2.1 md.2.2.2 ∈ zgt) : GoodIn zgt (zwd md) := by
  intro w hw
  have hm : w ∈ zgt := by
    rcases List.mem_cons.mp hw with e | e
    · rw [e]; exact h
    · exact e
  exact ⟨hm, good_of_word (List.mem_filter.mp hm).2⟩
theorem zgood_app {ws : List Cond} {md : zM} (h : Cond.code md.1 md.2.1 md.2.2.1 md.2.2.2 ∈ zgt) (h2 : ∀ w ∈ ws, w ∈ zgt) : GoodIn zgt (ws ++ zwd md) := by
  intro w hw
  rcases List.mem_append.mp hw with e | e
  · exact ⟨h2 w e, good_of_word (List.mem_filter.mp (h2 w e)).2⟩
  · exact zgood h w e
/-- what is known of a method of n parameters -/
def zMok (md : zM) (n : Nat) : Prop := plainName md.1.cls = true ∧ Cond.code md.1 md.2.1 md.2.2.1 md.2.2.2 ∈ zgt ∧ Cond.initialized md.1.cls ∈ zgt ∧ (md.1.cls ≠ "java/lang/invoke/MethodHandle" ∧ md.1.cls ≠ "java/lang/invoke/VarHandle" ∧ (parseMethodDescriptor md.1.desc).map (fun d => d.parameters.length) = some n) ∧ md.2.2.1 ≤ 30
theorem zPc_blind {D : va_G} {aC : Nat → ClassId} {base b L : Nat} {xs : Nat → Int32} {as : List Value} {M : zHp} {N : Nat} : FrameBlind (zPc D aC base b L xs as M N) := by
  intro a U g mk h
  obtain ⟨h1, h2, h3, h4, h5, h6, h7, h8, h9⟩ := h
  exact ⟨h1, h2, h3, h4, h5, va_K.moved (u := U) (U := U.calling g mk a) (Vm.Alike.refl U.vm) h6, va_X.moved (u := U) (U := U.calling g mk a) (Vm.Alike.refl U.vm) h7, h8, zBd_same rfl h9⟩
theorem zPc_pre {d : Nat} {md : zM} {f : zF} {p : Program} {R : Room} {s : State} {m : MethodId} {args : Array Value} {meth : Method} {c : Code} {D : va_G} {aC : Nat → ClassId} {base b L : Nat} {xs : Nat → Int32} {n0 s0 F : Nat} {M : zHp} {N : Nat} {H : Heap} {locs : List Loc} (as : List Value)
    (hx : zX d md f p R s m args meth c D aC base b L xs n0 s0 F) (hw : zWd D aC base b L xs M N s H locs) (hsz : H.size = base + N) : ∀ U : State, U.heap = H → s.WarmedH U.vm → zPc D aC base b L xs as M N ((as.map (zV base b)).toArray) U := by
  intro U hU hW
  have hbb := hx.2.2.2.2.2.2.2.2.2.2.1
  refine ⟨rfl, by rw [hU]; exact hsz, by rw [hU]; exact hw.1, hw.2.2.1, hw.2.2.2, va_K.moved hW.alike hx.2.2.2.2.2.2.2.2.1, ?_, hbb, zBd_warm hW hx.2.2.2.2.2.2.2.2.2.2.2.2.2.2.2.2.2⟩
  rw [hU]
  refine va_X.moved hW.alike (va_X.kept hx.2.2.2.2.2.2.2.2.2.1 (hw.2.1.2.1 b ?_ ?_))
  · have := hx.2.2.2.2.2.2.2.2.2.2.2.1
    omega
  · show ¬ base ≤ b
    omega
theorem zcall {d : Nat} {md : zM} {f g : zF} {p : Program} {l : Launch} {e : Env} {R : Room} {s : State} {m : MethodId} {args : Array Value} {below : List Frame} {meth : Method} {c : Code} {D : va_G} {aC : Nat → ClassId} {base b L : Nat} {xs : Nat → Int32} {n0 s0 F pc : Nat} {M : zHp} {N S : Nat} {H : Heap} {locs : List Loc} {ls st : List Value} {lsA : Array Slot} {st0 : List Value} {a : Array Value}
    (hx : zX d md f p R s m args meth c D aC base b L xs n0 s0 F) (hn : n0 ≤ N) (hs : s0 ≤ S) (hw : zWd D aC base b L xs M N s H locs) (hl : zL base b md.2.2.1 ls lsA) (hg1 : N ≤ g.2.2.1) (hg2 : S ≤ g.2.2.2)
    (hr : va_Run p l e R s m args below meth c H locs (N - n0) (S - s0) (g.2.2.1 - N) (g.2.2.2 - S) (F0 m pc lsA st0) (st.map (zV base b)) (zQ D aC base b L xs g a) (fun q => base ≤ q))
    (q : zGo d md (pc + 3) (ls, g.1.toList ++ st, g.2) f) : W p l e R s m args below meth c H locs (N - n0) (S - s0) (MQ below (zQ D aC base b L xs f) args s (f.2.2.1 - n0) (f.2.2.2 - s0) (fun q => base ≤ q)) (F0 m pc lsA st0) := by
  intro T hT X
  obtain ⟨v, st₀, t, T', L2, h0, X', hL, e1, e2, ⟨hv, hP, hM0, hvd, hz, hk⟩, st2⟩ := hr T hT X
  have hv : v = g.1.map (zV base b) := Outcome.returned.inj hv
  subst hv
  rw [h0] at hz hk
  have hs1 : base ≤ s.heap.size := by have := hx.2.2.2.2.2.2.2.2.2.2.2.1; omega
  have hw' : zWd D aC base b L xs g.2.1 g.2.2.1 s T'.heap (locs ++ L2) := by
    refine ⟨by rw [e1]; exact hP, ⟨Nat.le_trans hw.2.1.1 (by rw [e1]; exact hz), fun x h1 h2 => ?_, fun x hx => ?_⟩, hM0, hvd⟩
    · rw [e1, hk x (Nat.lt_of_lt_of_le h1 hw.2.1.1) h2]
      exact hw.2.1.2.1 x h1 h2
    · rcases List.mem_append.mp hx with h | h
      · exact hw.2.1.2.2 x h
      · exact hL x h
  have K := q.2.2 p l e R s m args below meth c D aC base b L xs n0 s0 F hx (by show n0 ≤ g.2.2.1; omega) (by show s0 ≤ g.2.2.2; omega) T'.heap (locs ++ L2) lsA hw' hl
  have K : W p l e R s m args below meth c T'.heap (locs ++ L2) (g.2.2.1 - n0) (g.2.2.2 - s0) (MQ below (zQ D aC base b L xs f) args s (f.2.2.1 - n0) (f.2.2.2 - s0) (fun q => base ≤ q)) (F0 m (pc + 3) lsA ((g.1.toList ++ st).map (zV base b))) := K
  rw [show g.2.2.1 - n0 = N - n0 + (g.2.2.1 - N) by omega, show g.2.2.2 - s0 = S - s0 + (g.2.2.2 - S) by omega, show (g.1.toList ++ st).map (zV base b) = (g.1.map (zV base b)).toList ++ st.map (zV base b) by cases g.1 <;> simp] at K
  obtain ⟨t2, a1, b1⟩ := K T' rfl X'
  exact ⟨t2, st2 t2 a1, b1⟩
def zpop : Nat → List Value → Option (List Value × List Value)
  | 0, st => some ([], st)
  | _ + 1, [] => none
  | n + 1, v :: st => (zpop n st).map fun q => (q.1 ++ [v], q.2)
theorem zpop_spec : ∀ {n : Nat} {st : List Value} {q : List Value × List Value}, zpop n st = some q → st = q.1.reverse ++ q.2 ∧ q.1.length = n
  | 0, st, q, h => by cases h; exact ⟨rfl, rfl⟩
  | n + 1, [], q, h => by cases h
  | n + 1, v :: st, q, h => by
    unfold zpop at h
    obtain ⟨q', h1, rfl⟩ := Option.map_eq_some_iff.mp h
    obtain ⟨e1, e2⟩ := zpop_spec h1
    exact ⟨by simp [e1], by simp [e2]⟩
/-- a static method of n parameters -/
def i_callS (y : zM) (n : Nat) : zI := fun c => match zpop n c.2.1 with
  | some (as, st) => if zsm st = true then some (.inr (.inr (.inr (y, as, (c.1, st, c.2.2))))) else none
  | none => none
/-- a method of an object, of n parameters beside it: which one, its class says -/
def i_callV (tab : Nat → Option zM) (n : Nat) : zI := fun c => match zpop (n + 1) c.2.1 with
  | some (.ref a :: as, st) => match c.2.2.1 a with
    | .inr (ci, _) => match tab ci with
      | some y => if zsm st = true then some (.inr (.inr (.inr (y, .ref a :: as, (c.1, st, c.2.2))))) else none
      | none => none
    | _ => none
  | _ => none
/-- a constructor -/
def i_callI (y : zM) (n : Nat) : zI := fun c => match zpop (n + 1) c.2.1 with
  | some (.ref a :: as, st) => if zsm st = true then some (.inr (.inr (.inr (y, .ref a :: as, (c.1, st, c.2.2))))) else none
  | _ => none
/-- Object's constructor -/
def i_obj : zI := fun c => match c.2.1 with
  | .ref _ :: st => if zsm st = true then some (.inl (c.1, st, c.2.2)) else none
  | _ => none
theorem zroom {d' d F : Nat} {md : zM} {n : Nat} {R : Room} (hm : zMok md n) (h : d = d' + 1) (hF : d < F) (h1 : F ≤ R.frames) (h2 : 60 * F ≤ R.locals) (mc ms : Nat) : d' < F - 1 ∧ (zRoom (F - 1) mc ms).frames + 1 ≤ R.frames ∧ 8 + (md.2.2.1 + 11) + (zRoom (F - 1) mc ms).locals ≤ R.locals := by
  have := hm.2.2.2.2
  refine ⟨by omega, ?_, ?_⟩
  · show F - 1 + 1 ≤ R.frames
    omega
  · show 8 + (md.2.2.1 + 11) + 60 * (F - 1) ≤ R.locals
    omega
theorem n_callS {md y : zM} {pc n idx : Nat} (hm : zMok y n) (hl : Cond.methodLink md.1.cls idx y.1 ∈ zgt) (hst : Cond.static y.1 ∈ zgt) (hd : decode md.2.1 pc = .ok (.invokestatic idx, 3)) : zS md pc (pc + 3) (i_callS y n) := by
  intro d f ⟨ls, st, M, N, S⟩ r h q
  unfold i_callS at h
  dsimp only at h
  split at h
  · rename_i as st' hp
    split at h
    · rename_i hsm
      cases h
      obtain ⟨d', g, hdd, hrun, q⟩ := q
      obtain ⟨e1, e2⟩ := zpop_spec hp
      have e1 : st = as.reverse ++ st' := e1
      have e2 : as.length = n := e2
      have hr1 : N ≤ g.2.2.1 := hrun.1
      have hr2 : S ≤ g.2.2.2 := hrun.2.1
      have q1 : g.2.2.1 ≤ f.2.2.1 := q.1
      have q2 : g.2.2.2 ≤ f.2.2.2 := q.2.1
      refine ⟨by show N ≤ _; omega, by show S ≤ _; omega, fun p l e R s m args below meth c D aC base b L xs n0 s0 F hx hn hs H locs lsA hw hl' => ?_⟩
      have hn : n0 ≤ N := hn
      have hs : s0 ≤ S := hs
      have hw : zWd D aC base b L xs M N s H locs := hw
      have hFR := hx.2.2.2.2.2.2.2.2.2.2.2.2
      refine zsize hx.2.2.2.2.2.2.2.2.2.2.2.1 hn hw (fun hsz => ?_)
      obtain ⟨r1, r2, r3⟩ := zroom hm hdd hFR.2.2.2.2.1 hFR.2.2.1 hFR.2.2.2.1 (g.2.2.1 - N) (g.2.2.2 - S)
      have hM := hrun.2.2 l D aC base b L xs (F - 1) r1
      refine zcall (st := st') (a := (as.map (zV base b)).toArray) hx hn hs hw hl' hr1 hr2 ?_ q
      refine va_runS (As := as.map (zV base b)) (rest := st'.map (zV base b)) (n := n) (Ts := zgt) (cc := md.2.1) (nL := md.2.2.1) (own := md.1.cls) (index := idx) (bytes := y.2.1) (maxL := y.2.2.1) (ret := y.2.2.2) ⟨hx.1, hx.2.1, hx.2.2.1, hx.2.2.2.1, hx.2.2.2.2.1⟩ hM ⟨callB_of n hx.2.2.2.2.1 (zgood hm.2.1) rfl rfl rfl (hx.2.2.2.2.1 _ hm.2.2.1) (hx.2.2.2.2.1 _ hl) hm.2.2.2.1 ⟨r2, r3⟩, hx.2.2.2.2.1 _ hst⟩ ⟨zPc_blind, zPc_pre as hx hw hsz⟩ rfl (by simpa using e2) hl'.2.1 ?_ (lv_room (zsm_cat base b hsm)) hd ⟨?_, ?_⟩
      · show st.map (zV base b) = _
        rw [e1]
        simp
      · show N - n0 + (g.2.2.1 - N) ≤ R.cells
        omega
      · show S - s0 + (g.2.2.2 - S) ≤ R.slots
        omega
    · cases h
  · cases h
theorem n_callI {md y : zM} {pc n idx : Nat} (hm : zMok y n) (hret : y.2.2.2 = none) (hnm : y.1.name = "<init>") (hl : Cond.methodLink md.1.cls idx y.1 ∈ zgt) (hin : Cond.instanceMethod y.1 ∈ zgt) (hd : decode md.2.1 pc = .ok (.invokespecial idx, 3)) : zS md pc (pc + 3) (i_callI y n) := by
  intro d f ⟨ls, st, M, N, S⟩ r h q
  unfold i_callI at h
  dsimp only at h
  split at h
  · rename_i a as st' hp
    split at h
    · rename_i hsm
      cases h
      obtain ⟨d', g, hdd, hrun, q⟩ := q
      obtain ⟨e1, e2⟩ := zpop_spec hp
      have e1 : st = (Value.ref a :: as).reverse ++ st' := e1
      have e2 : (Value.ref a :: as).length = n + 1 := e2
      have hr1 : N ≤ g.2.2.1 := hrun.1
      have hr2 : S ≤ g.2.2.2 := hrun.2.1
      have q1 : g.2.2.1 ≤ f.2.2.1 := q.1
      have q2 : g.2.2.2 ≤ f.2.2.2 := q.2.1
      refine ⟨by show N ≤ _; omega, by show S ≤ _; omega, fun p l e R s m args below meth c D aC base b L xs n0 s0 F hx hn hs H locs lsA hw hl' => ?_⟩
      have hn : n0 ≤ N := hn
      have hs : s0 ≤ S := hs
      have hw : zWd D aC base b L xs M N s H locs := hw
      have hFR := hx.2.2.2.2.2.2.2.2.2.2.2.2
      refine zsize hx.2.2.2.2.2.2.2.2.2.2.2.1 hn hw (fun hsz => ?_)
      obtain ⟨r1, r2, r3⟩ := zroom hm hdd hFR.2.2.2.2.1 hFR.2.2.1 hFR.2.2.2.1 (g.2.2.1 - N) (g.2.2.2 - S)
      have hM := hrun.2.2 l D aC base b L xs (F - 1) r1
      refine zcall (st := st') (a := (Value.ref (zAd base b a) :: as.map (zV base b)).toArray) hx hn hs hw hl' hr1 hr2 ?_ q
      refine va_runI (b := zAd base b a) (As := as.map (zV base b)) (rest := st'.map (zV base b)) (n := n) (Ts := zgt) (cc := md.2.1) (nL := md.2.2.1) (own := md.1.cls) (index := idx) (bytes := y.2.1) (maxL := y.2.2.1) ⟨hx.1, hx.2.1, hx.2.2.1, hx.2.2.2.1, hx.2.2.2.2.1⟩ hM ⟨callB_of n hx.2.2.2.2.1 (zgood hm.2.1) (by unfold zwd; rw [hret]) rfl rfl (hx.2.2.2.2.1 _ hm.2.2.1) (hx.2.2.2.2.1 _ hl) hm.2.2.2.1 ⟨r2, r3⟩, hnm, hx.2.2.2.2.1 _ hin⟩ ⟨zPc_blind, zPc_pre (Value.ref a :: as) hx hw hsz⟩ rfl (by simpa using e2) hl'.2.1 ?_ (lv_room (zsm_cat base b hsm)) hd ⟨?_, ?_⟩
      · show st.map (zV base b) = _
        rw [e1]
        simp [zV]
      · show N - n0 + (g.2.2.1 - N) ≤ R.cells
        omega
      · show S - s0 + (g.2.2.2 - S) ≤ R.slots
        omega
    · cases h
  · cases h
theorem n_callIN {md y : zM} {pc n idx : Nat} {host : String} (hm : zMok y n) (hret : y.2.2.2 = none) (hnm : y.1.name = "<init>") (hl : ∀ U, zBd U → va_Nw (.methodLinkNest md.1.cls idx y.1 host) U) (hin : Cond.instanceMethod y.1 ∈ zgt) (hd : decode md.2.1 pc = .ok (.invokespecial idx, 3)) : zS md pc (pc + 3) (i_callI y n) := by
  intro d f ⟨ls, st, M, N, S⟩ r h q
  unfold i_callI at h
  dsimp only at h
  split at h
  · rename_i a as st' hp
    split at h
    · rename_i hsm
      cases h
      obtain ⟨d', g, hdd, hrun, q⟩ := q
      obtain ⟨e1, e2⟩ := zpop_spec hp
      have e1 : st = (Value.ref a :: as).reverse ++ st' := e1
      have e2 : (Value.ref a :: as).length = n + 1 := e2
      have hr1 : N ≤ g.2.2.1 := hrun.1
      have hr2 : S ≤ g.2.2.2 := hrun.2.1
      have q1 : g.2.2.1 ≤ f.2.2.1 := q.1
      have q2 : g.2.2.2 ≤ f.2.2.2 := q.2.1
      refine ⟨by show N ≤ _; omega, by show S ≤ _; omega, fun p l e R s m args below meth c D aC base b L xs n0 s0 F hx hn hs H locs lsA hw hl' => ?_⟩
      have hn : n0 ≤ N := hn
      have hs : s0 ≤ S := hs
      have hw : zWd D aC base b L xs M N s H locs := hw
      have hFR := hx.2.2.2.2.2.2.2.2.2.2.2.2
      refine zsize hx.2.2.2.2.2.2.2.2.2.2.2.1 hn hw (fun hsz => ?_)
      obtain ⟨r1, r2, r3⟩ := zroom hm hdd hFR.2.2.2.2.1 hFR.2.2.1 hFR.2.2.2.1 (g.2.2.1 - N) (g.2.2.2 - S)
      have hM := hrun.2.2 l D aC base b L xs (F - 1) r1
      refine zcall (st := st') (a := (Value.ref (zAd base b a) :: as.map (zV base b)).toArray) hx hn hs hw hl' hr1 hr2 ?_ q
      refine va_runIN (host := host) (b := zAd base b a) (As := as.map (zV base b)) (rest := st'.map (zV base b)) (n := n) (Ts := zgt) (cc := md.2.1) (nL := md.2.2.1) (own := md.1.cls) (index := idx) (bytes := y.2.1) (maxL := y.2.2.1) ⟨hx.1, hx.2.1, hx.2.2.1, hx.2.2.2.1, hx.2.2.2.2.1⟩ hM ⟨va_cnB n hx.2.2.2.2.1 (zgood hm.2.1) (by unfold zwd; rw [hret]) rfl rfl (hl s hx.2.2.2.2.2.2.2.2.2.2.2.2.2.2.2.2.2) (hx.2.2.2.2.1 _ hm.2.2.1) hm.2.2.2.1 ⟨r2, r3⟩, hnm, hx.2.2.2.2.1 _ hin⟩ ⟨zPc_blind, zPc_pre (Value.ref a :: as) hx hw hsz⟩ rfl (by simpa using e2) hl'.2.1 ?_ (lv_room (zsm_cat base b hsm)) hd ⟨?_, ?_⟩
      · show st.map (zV base b) = _
        rw [e1]
        simp [zV]
      · show N - n0 + (g.2.2.1 - N) ≤ R.cells
        omega
      · show S - s0 + (g.2.2.2 - S) ≤ R.slots
        omega
    · cases h
  · cases h
/-- how a method of an object is found: its own class's one; another's that overrides; by super -/
def zV1 (md : zM) (idx : Nat) (x y : MethodName) (C : String) : Prop :=
  (y = x ∧ y.cls = C ∧ Cond.methodLink md.1.cls idx y ∈ zgt ∧ Cond.instanceMethod y ∈ zgt ∧ Cond.selects C y y ∈ zgt) ∨
  (∃ (owner : String) (b0 : ByteArray) (m0 : Nat) (r0 : Option FieldType), Cond.code ⟨owner, x.name, x.desc⟩ b0 m0 r0 ∈ zgt ∧ (owner ≠ "java/lang/invoke/MethodHandle" ∧ owner ≠ "java/lang/invoke/VarHandle") ∧ y.desc = x.desc ∧ Cond.methodLink md.1.cls idx x ∈ zgt ∧ Cond.sameMethod x.cls owner x.name x.desc ∈ zgt ∧ Cond.instanceMethod ⟨owner, x.name, x.desc⟩ ∈ zgt ∧ Cond.selects C x y ∈ zgt ∧ Cond.instanceMethod y ∈ zgt)
theorem n_callV {md : zM} {x : MethodName} {tab : Nat → Option zM} {pc n idx : Nat} (ht : ∀ ci y, tab ci = some y → zMok y n ∧ ∃ C T k, zCl[ci]? = some (C, T, k) ∧ zV1 md idx x y.1 C) (hd : decode md.2.1 pc = .ok (.invokevirtual idx, 3)) : zS md pc (pc + 3) (i_callV tab n) := by
  intro d f ⟨ls, st, M, N, S⟩ r h q
  unfold i_callV at h
  dsimp only at h
  split at h
  · rename_i a as st' hp
    split at h
    · rename_i ci fs hmo
      split at h
      · rename_i y hty
        split at h
        · rename_i hsm
          cases h
          obtain ⟨hm, C, T, k, hC, hV⟩ := ht ci y hty
          obtain ⟨d', g, hdd, hrun, q⟩ := q
          obtain ⟨e1, e2⟩ := zpop_spec hp
          have e1 : st = (Value.ref a :: as).reverse ++ st' := e1
          have e2 : (Value.ref a :: as).length = n + 1 := e2
          have hr1 : N ≤ g.2.2.1 := hrun.1
          have hr2 : S ≤ g.2.2.2 := hrun.2.1
          have q1 : g.2.2.1 ≤ f.2.2.1 := q.1
          have q2 : g.2.2.2 ≤ f.2.2.2 := q.2.1
          refine ⟨by show N ≤ _; omega, by show S ≤ _; omega, fun p l e R s m args below meth c D aC base b L xs n0 s0 F hx hn hs H locs lsA hw hl' => ?_⟩
          have hn : n0 ≤ N := hn
          have hs : s0 ≤ S := hs
          have hw : zWd D aC base b L xs M N s H locs := hw
          have hFR := hx.2.2.2.2.2.2.2.2.2.2.2.2
          refine zsize hx.2.2.2.2.2.2.2.2.2.2.2.1 hn hw (fun hsz => ?_)
          obtain ⟨r1, r2, r3⟩ := zroom hm hdd hFR.2.2.2.2.1 hFR.2.2.1 hFR.2.2.2.1 (g.2.2.1 - N) (g.2.2.2 - S)
          have hM := hrun.2.2 l D aC base b L xs (F - 1) r1
          have hst : st.map (zV base b) = (as.map (zV base b)).reverse ++ .ref (zAd base b a) :: st'.map (zV base b) := by rw [e1]; simp [zV]
          have hrc : ∃ cellB : Cell, H[zAd base b a]? = some cellB ∧ cellB.vm.isStatics = false ∧ s.vm.findClass C = some cellB.cls := by
            obtain ⟨j, rfl, hj, he⟩ := zwd_obj hw hmo
            exact va_recv hx.2.2.2.2.2.2.2.2.1 hw.1 hC he
          refine zcall (st := st') (a := (Value.ref (zAd base b a) :: as.map (zV base b)).toArray) hx hn hs hw hl' hr1 hr2 ?_ q
          have hts := hx.2.2.2.2.1
          rcases hV with ⟨-, hyC, v1, v2, v3⟩ | ⟨owner, b0, m0, r0, v0, v0b, v0c, v1, v2, v3, v4, v5⟩
          · exact va_runV (C := C) (b := zAd base b a) (As := as.map (zV base b)) (rest := st'.map (zV base b)) (n := n) (Ts := zgt) (cc := md.2.1) (nL := md.2.2.1) (own := md.1.cls) (index := idx) (bytes := y.2.1) (maxL := y.2.2.1) (ret := y.2.2.2) ⟨hx.1, hx.2.1, hx.2.2.1, hx.2.2.2.1, hts⟩ hM ⟨callB_of n hts (zgood hm.2.1) rfl rfl rfl (hts _ hm.2.2.1) (hts _ v1) hm.2.2.2.1 ⟨r2, r3⟩, hts _ v2, hts _ v3⟩ ⟨zPc_blind, hrc, zPc_pre (Value.ref a :: as) hx hw hsz⟩ rfl (by simpa using e2) hl'.2.1 hst (lv_room (zsm_cat base b hsm)) hd ⟨by show N - n0 + (g.2.2.1 - N) ≤ R.cells; omega, by show S - s0 + (g.2.2.2 - S) ≤ R.slots; omega⟩
          · exact va_runU (C := C) (owner := owner) (x := x) (b := zAd base b a) (As := as.map (zV base b)) (rest := st'.map (zV base b)) (n := n) (Ts := zgt) (cc := md.2.1) (nL := md.2.2.1) (own := md.1.cls) (index := idx) (bytes := y.2.1) (maxL := y.2.2.1) (ret := y.2.2.2) ⟨hx.1, hx.2.1, hx.2.2.1, hx.2.2.2.1, hts⟩ hM
              (va_cwO n hts (by
                refine zgood_app hm.2.1 (ws := [.methodLink md.1.cls idx x, .sameMethod x.cls owner x.name x.desc, .instanceMethod ⟨owner, x.name, x.desc⟩, .selects C x y.1, .instanceMethod y.1, .initialized y.1.cls]) ?_
                intro w hw
                simp only [List.mem_cons, List.not_mem_nil, or_false] at hw
                rcases hw with rfl | rfl | rfl | rfl | rfl | rfl
                · exact v1
                · exact v2
                · exact v3
                · exact v4
                · exact v5
                · exact hm.2.2.1) rfl rfl rfl v0 ⟨v0b.1, v0b.2, by rw [← v0c]; exact hm.2.2.2.1.2.2⟩ ⟨r2, r3⟩) ⟨zPc_blind, hrc, zPc_pre (Value.ref a :: as) hx hw hsz⟩ rfl (by simpa using e2) hl'.2.1 hst (lv_room (zsm_cat base b hsm)) hd ⟨by show N - n0 + (g.2.2.1 - N) ≤ R.cells; omega, by show S - s0 + (g.2.2.2 - S) ≤ R.slots; omega⟩
        · cases h
      · cases h
    · cases h
  · cases h
/-- super.m(..) -/
theorem n_callU {md y : zM} {tab : Nat → Option zM} {pc n idx : Nat} (hm : zMok y n) (ht : ∀ ci z, tab ci = some z → z = y ∧ ∃ q, zCl[ci]? = some q) (hnm : y.1.name ≠ "<init>") (v1 : Cond.methodLink md.1.cls idx y.1 ∈ zgt) (v2 : Cond.sameMethod y.1.cls y.1.cls y.1.name y.1.desc ∈ zgt) (v3 : Cond.superclass md.1.cls y.1.cls ∈ zgt) (v4 : Cond.instanceMethod y.1 ∈ zgt) (hd : decode md.2.1 pc = .ok (.invokespecial idx, 3)) : zS md pc (pc + 3) (i_callV tab n) := by
  intro d f ⟨ls, st, M, N, S⟩ r h q
  unfold i_callV at h
  dsimp only at h
  split at h
  · rename_i a as st' hp
    split at h
    · rename_i ci fs hmo
      split at h
      · rename_i z hty
        split at h
        · rename_i hsm
          cases h
          obtain ⟨rfl, ⟨C, T, k⟩, hC⟩ := ht ci z hty
          obtain ⟨d', g, hdd, hrun, q⟩ := q
          obtain ⟨e1, e2⟩ := zpop_spec hp
          have e1 : st = (Value.ref a :: as).reverse ++ st' := e1
          have e2 : (Value.ref a :: as).length = n + 1 := e2
          have hr1 : N ≤ g.2.2.1 := hrun.1
          have hr2 : S ≤ g.2.2.2 := hrun.2.1
          have q1 : g.2.2.1 ≤ f.2.2.1 := q.1
          have q2 : g.2.2.2 ≤ f.2.2.2 := q.2.1
          refine ⟨by show N ≤ _; omega, by show S ≤ _; omega, fun p l e R s m args below meth c D aC base b L xs n0 s0 F hx hn hs H locs lsA hw hl' => ?_⟩
          have hn : n0 ≤ N := hn
          have hs : s0 ≤ S := hs
          have hw : zWd D aC base b L xs M N s H locs := hw
          have hFR := hx.2.2.2.2.2.2.2.2.2.2.2.2
          refine zsize hx.2.2.2.2.2.2.2.2.2.2.2.1 hn hw (fun hsz => ?_)
          obtain ⟨r1, r2, r3⟩ := zroom hm hdd hFR.2.2.2.2.1 hFR.2.2.1 hFR.2.2.2.1 (g.2.2.1 - N) (g.2.2.2 - S)
          have hM := hrun.2.2 l D aC base b L xs (F - 1) r1
          have hst : st.map (zV base b) = (as.map (zV base b)).reverse ++ .ref (zAd base b a) :: st'.map (zV base b) := by rw [e1]; simp [zV]
          have hrc : ∃ cellB : Cell, H[zAd base b a]? = some cellB ∧ cellB.vm.isStatics = false ∧ s.vm.findClass C = some cellB.cls := by
            obtain ⟨j, rfl, hj, he⟩ := zwd_obj hw hmo
            exact va_recv hx.2.2.2.2.2.2.2.2.1 hw.1 hC he
          refine zcall (st := st') (a := (Value.ref (zAd base b a) :: as.map (zV base b)).toArray) hx hn hs hw hl' hr1 hr2 ?_ q
          have hts := hx.2.2.2.2.1
          have hat : ClassAt s C (D.1 ci) := (hx.2.2.2.2.2.2.2.2.1.1 ci _ hC).2
          exact va_runSU hat (b := zAd base b a) (As := as.map (zV base b)) (rest := st'.map (zV base b)) (n := n) (Ts := zgt) (cc := md.2.1) (nL := md.2.2.1) (own := md.1.cls) (index := idx) (bytes := z.2.1) (maxL := z.2.2.1) (ret := z.2.2.2) ⟨hx.1, hx.2.1, hx.2.2.1, hx.2.2.2.1, hts⟩ hM
              (va_cwSU n hts (by
                refine zgood_app hm.2.1 (ws := [.methodLink md.1.cls idx z.1, .sameMethod z.1.cls z.1.cls z.1.name z.1.desc, .superclass md.1.cls z.1.cls, .instanceMethod z.1, .initialized z.1.cls]) ?_
                intro w hw
                simp only [List.mem_cons, List.not_mem_nil, or_false] at hw
                rcases hw with rfl | rfl | rfl | rfl | rfl
                · exact v1
                · exact v2
                · exact v3
                · exact v4
                · exact hm.2.2.1) rfl rfl rfl ⟨hnm, hm.2.2.2.1.2.2⟩ ⟨r2, r3⟩) ⟨zPc_blind, hrc, zPc_pre (Value.ref a :: as) hx hw hsz⟩ rfl (by simpa using e2) hl'.2.1 hst (lv_room (zsm_cat base b hsm)) hd ⟨by show N - n0 + (g.2.2.1 - N) ≤ R.cells; omega, by show S - s0 + (g.2.2.2 - S) ≤ R.slots; omega⟩
        · cases h
      · cases h
    · cases h
  · cases h
theorem n_obj {md : zM} {pc idx : Nat} (hl : Cond.methodLink md.1.cls idx Lib.objectInit ∈ zgt) (hin : Cond.instanceMethod Lib.objectInit ∈ zgt) (hc : Cond.code Lib.objectInit ⟨#[0xb1]⟩ 1 none ∈ zgt) (hd : decode md.2.1 pc = .ok (.invokespecial idx, 3)) : zS md pc (pc + 3) i_obj := by
  intro d f ⟨ls, st, M, N, S⟩ r h q
  unfold i_obj at h
  dsimp only at h
  split at h
  · rename_i a st
    split at h
    · rename_i hsm
      cases h
      refine ⟨q.1, q.2.1, fun p l e R s m args below meth c D aC base b L xs n0 s0 F hx hn hs H locs lsA hw hl' => ?_⟩
      have hFR := hx.2.2.2.2.2.2.2.2.2.2.2.2
      have hcat := lv_room (m := m) (pc := pc) (ls := lsA) (rest := .ref (zAd base b a) :: st.map (zV base b)) (zsm_cat base b hsm)
      exact W.objInit hx.1 hx.2.1 hx.2.2.2.1 (hx.2.2.2.2.1 _ hl) (hx.2.2.2.2.1 _ hin) (hx.2.2.2.2.1 _ hc) rfl (by rw [hx.2.2.1]; exact hl'.2.1) rfl hd (by omega) (by have hcat : 2 * (F0 m pc lsA (List.map (zV base b) (ls, Value.ref a :: st, M, N, S).2.1)).monitorRoom + ((st.map (zV base b)).map fun v => v.category).sum ≤ 8 := hcat; omega) (q.2.2 p l e R s m args below meth c D aC base b L xs n0 s0 F hx hn hs H locs lsA hw hl')
    · cases h
  · cases h
/-- a method's entry -/
theorem zenter {d : Nat} {md : zM} {as : List Value} {M : zHp} {N S n k : Nat} {f : zF} (hm : zMok md k) (hn : as.length + n = md.2.2.1) (has : as.all z1 = true) (h : zGo d md 0 (as ++ List.replicate n (.retAddr 0), [], M, N, S) f) : zRuns d md as M N S f := by
  refine ⟨h.1, h.2.1, fun l D aC base b L xs F hF => ?_⟩
  refine Met.ofW (cc := md.2.1) (maxL := md.2.2.1) (ret := md.2.2.2) hm.1 rfl ?_
  intro p e s m args below meth c s₁ B hml hv
  obtain ⟨rfl, hsz, hP, hM0, hvd, hK, hX, hb, hbd⟩ := hv
  have hts := atoms_spec (ws := zwd md) B.pre
  have h1 : ∀ v ∈ as.map (zV base b), v.category = 1 := by
    intro v hv
    obtain ⟨w, hw, rfl⟩ := List.mem_map.mp hv
    exact z1_cat (List.all_eq_true.mp has w hw)
  have hsl : ∀ vs : List Value, (∀ v ∈ vs, v.category = 1) → lg_sl vs = vs.map Slot.val := by
    intro vs hvs
    induction vs with
    | nil => rfl
    | cons v vs ih =>
      have hv1 := hvs v List.mem_cons_self
      have := ih (fun w hw => hvs w (List.mem_cons_of_mem _ hw))
      unfold lg_sl at this ⊢
      rw [List.flatMap_cons, this, if_neg (by omega)]
      rfl
  have hle : (lg_sl (as.map (zV base b))).length ≤ md.2.2.1 := by rw [hsl _ h1]; simp; omega
  have hl := lv_entry (as.map (zV base b)) hle
  rw [lg_entry_eq]
  refine h.2.2 p l e _ s m _ below meth c D aC base b L xs N S F ⟨B.exec, B.bytes, hml, findClass_of_methodNamed B.named, fun w hw => hts w (List.mem_cons_of_mem _ hw), B.notSynchronized, B.returns, fun hi => by rw [← hi]; exact (name_of_methodNamed B.named B.method).1, hK, hX, hb, hsz, Nat.le_refl _, Nat.le_refl _, Nat.le_refl _, Nat.le_refl _, hF, hbd⟩ (Nat.le_refl _) (Nat.le_refl _) s.heap [] _ ⟨hP, va_S.rf, hM0, hvd⟩ ⟨?_, hl.1, hl.2.1, ?_, ?_, ?_⟩ |> fun K => by
    have K' : W p l e (zRoom F (f.2.2.1 - N) (f.2.2.2 - S)) s m ((as.map (zV base b)).toArray) below meth c s.heap [] (N - N) (S - S) (MQ below (zQ D aC base b L xs f) ((as.map (zV base b)).toArray) s (f.2.2.1 - N) (f.2.2.2 - S) (fun q => base ≤ q)) (F0 m 0 ((lg_sl (as.map (zV base b)) ++ List.replicate (md.2.2.1 - (lg_sl (as.map (zV base b))).length) Slot.unset).toArray) []) := K
    rw [Nat.sub_self, Nat.sub_self] at K'
    exact K'
  · show (as ++ List.replicate n (Value.retAddr 0)).length = md.2.2.1
    simp
    exact hn
  · intro i v hi hv
    have hi : (as ++ List.replicate n (Value.retAddr 0))[i]? = some v := hi
    rcases Nat.lt_or_ge i as.length with g | g
    · rw [List.getElem?_append_left g] at hi
      rw [hsl _ h1]
      rw [List.getElem?_toArray, List.getElem?_append_left (by simp; exact g)]
      simp [hi]
    · rw [List.getElem?_append_right g, List.getElem?_replicate] at hi
      split at hi
      · cases hi
        exact absurd rfl (hv 0)
      · cases hi
  · intro i x hi
    have hi : (as ++ List.replicate n (Value.retAddr 0))[i]? = some (.long x) := hi
    rcases Nat.lt_or_ge i as.length with g | g
    · rw [List.getElem?_append_left g] at hi
      have := List.all_eq_true.mp has _ (List.mem_of_getElem? hi)
      cases this
    · rw [List.getElem?_append_right g, List.getElem?_replicate] at hi
      split at hi <;> cases hi
  · intro i x hi
    have hi : (as ++ List.replicate n (Value.retAddr 0))[i]? = some (.double x) := hi
    rcases Nat.lt_or_ge i as.length with g | g
    · rw [List.getElem?_append_left g] at hi
      have := List.all_eq_true.mp has _ (List.mem_of_getElem? hi)
      cases this
    · rw [List.getElem?_append_right g, List.getElem?_replicate] at hi
      split at hi <;> cases hi
/-- Math.max, Math.min -/
def i_mm (o : Int32 → Int32 → Int32) : zI := fun c => match c.2.1 with
  | .int y :: .int x :: st => if zsm st = true then some (.inl (c.1, .int (o x y) :: st, c.2.2)) else none
  | _ => none
theorem n_mmax {md : zM} {pc idx : Nat} (hl : Cond.methodLink md.1.cls idx Lib.Math.max.name ∈ zgt) (h1 : Cond.static Lib.Math.max.name ∈ zgt) (h2 : Cond.initialized "java/lang/Math" ∈ zgt) (h3 : Cond.code Lib.Math.max.name Lib.Math.max.code 2 (some .int) ∈ zgt) (hd : decode md.2.1 pc = .ok (.invokestatic idx, 3)) : zS md pc (pc + 3) (i_mm (fun x y => if x < y then y else x)) := by
  intro d f ⟨ls, st, M, N, S⟩ r h q
  unfold i_mm at h
  dsimp only at h
  split at h
  · rename_i y x st
    split at h
    · rename_i hsm
      cases h
      have q1 : N ≤ f.2.2.1 := q.1
      have q2 : S ≤ f.2.2.2 := q.2.1
      refine ⟨q.1, q.2.1, fun p l e R s m args below meth c D aC base b L xs n0 s0 F hx hn hs H locs lsA hw hl' => ?_⟩
      have hFR := hx.2.2.2.2.2.2.2.2.2.2.2.2
      have hcat := zsm_cat base b hsm
      have hn : n0 ≤ N := hn
      have hs : s0 ≤ S := hs
      exact va_mmax hx.1 hx.2.1 (by rw [hx.2.2.1, hl'.2.1]) hx.2.2.2.1 (hx.2.2.2.2.1 _ hl) (hx.2.2.2.2.1 _ h1) (hx.2.2.2.2.1 _ h2) (hx.2.2.2.2.1 _ h3) (by omega) (by omega) (by show N - n0 ≤ R.cells; omega) (by show S - s0 ≤ R.slots; omega) hd (q.2.2 p l e R s m args below meth c D aC base b L xs n0 s0 F hx hn hs H locs lsA hw hl')
    · cases h
  · cases h
theorem n_mmin {md : zM} {pc idx : Nat} (hl : Cond.methodLink md.1.cls idx Lib.Math.min.name ∈ zgt) (h1 : Cond.static Lib.Math.min.name ∈ zgt) (h2 : Cond.initialized "java/lang/Math" ∈ zgt) (h3 : Cond.code Lib.Math.min.name Lib.Math.min.code 2 (some .int) ∈ zgt) (hd : decode md.2.1 pc = .ok (.invokestatic idx, 3)) : zS md pc (pc + 3) (i_mm (fun x y => if y < x then y else x)) := by
  intro d f ⟨ls, st, M, N, S⟩ r h q
  unfold i_mm at h
  dsimp only at h
  split at h
  · rename_i y x st
    split at h
    · rename_i hsm
      cases h
      have q1 : N ≤ f.2.2.1 := q.1
      have q2 : S ≤ f.2.2.2 := q.2.1
      refine ⟨q.1, q.2.1, fun p l e R s m args below meth c D aC base b L xs n0 s0 F hx hn hs H locs lsA hw hl' => ?_⟩
      have hFR := hx.2.2.2.2.2.2.2.2.2.2.2.2
      have hcat := zsm_cat base b hsm
      have hn : n0 ≤ N := hn
      have hs : s0 ≤ S := hs
      exact va_mmin hx.1 hx.2.1 (by rw [hx.2.2.1, hl'.2.1]) hx.2.2.2.1 (hx.2.2.2.2.1 _ hl) (hx.2.2.2.2.1 _ h1) (hx.2.2.2.2.1 _ h2) (hx.2.2.2.2.1 _ h3) (by omega) (by omega) (by show N - n0 ≤ R.cells; omega) (by show S - s0 ≤ R.slots; omega) hd (q.2.2 p l e R s m args below meth c D aC base b L xs n0 s0 F hx hn hs H locs lsA hw hl')
    · cases h
  · cases h
