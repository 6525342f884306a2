section TD
variable {M : zHp} {N S d n hn nh np : Nat} {tr : Int64} {hall er tp nw : Nat → Int32} {tax warm : Int32} {lt A st so va fa : Int32} {D : Nat → Nat}
theorem sM_plain (h168 : M 168 = mQ tr n lt A st so va fa hn) (hT : mT nh np hall er tp tax warm M) : ∃ M', zRuns d mM_plain [.ref 168] M N S (none, M', N, S) ∧ (∀ k, ¬ k = 168 → ¬ (170 ≤ k ∧ k ≤ 176) → M' k = M k) ∧ M' 168 = mQ tr n 0 A st so va fa hn ∧ mB nh np hall er tp tax warm D0 M' := by
  obtain ⟨⟨f0, a0, b0⟩, ⟨f1, a1, b1⟩, ⟨f2, a2, b2⟩, ⟨f3, a3⟩, ⟨f4, a4, b4⟩, ⟨f5, a5, b5⟩, f6, a6, b6, c6⟩ := hT
  have z1 : zix 1 2 = some 1 := by decide
  have z2 : zix 2 4 = some 2 := by decide
  have z3 : zix 3 4 = some 3 := by decide
  refine ⟨va_up (va_up (va_up (va_up M 170 (.inl (0, 2, .inl (upd f0 1 0)))) 172 (.inl (0, 2, .inl (upd f2 1 0)))) 176 (.inl (0, 4, .inl (upd (upd f6 2 12) 3 20)))) 168 (mQ tr n 0 A st so va fa hn), ?_, fun k x y => ?_, rfl, ⟨⟨_, rfl, by rw [pk_un (by decide)]; exact b0, by rw [pk_us]; rfl⟩, ⟨f1, a1, b1, fun j hj => absurd hj (Nat.not_lt_zero _)⟩, ⟨_, rfl, by rw [pk_un (by decide)]; exact b2, by rw [pk_us]; rfl⟩, ⟨f3, a3, fun j hj => absurd hj (Nat.not_lt_zero _)⟩, ⟨f4, a4, b4, fun j hj => absurd hj (Nat.not_lt_zero _)⟩, ⟨f5, a5, b5, fun j hj => absurd hj (Nat.not_lt_zero _)⟩, _, rfl, by rw [pk_un (by decide), pk_un (by decide)]; exact b6, by rw [pk_un (by decide), pk_un (by decide)]; exact c6, by rw [pk_un (by decide), pk_us]; rfl, by rw [pk_us]; rfl⟩⟩
  · refine zenter (n := 0) kM_plain rfl rfl ?_
    refine tM_plain_0 _ _ _ ?_
    simp only [bM_plain_0, h168, mQ, a0, a2, a6, z1, z2, z3, e_const, e_lconst, e_iload, e_aload, e_lload, e_istore, e_astore, e_lstore, e_iinc, e_bin, e_un, e_div, e_mm, e_ladd, e_lcmp, e_dupi, e_dupr, e_dup2, e_popi, e_goto, e_if, e_icmp, e_sw, e_ret, e_zret0, e_zret1, e_zretb, bI_0, bI_1, bI_t, bI_f, i32_10, i32_01, e_lret, e_vret, e_getf, e_putf, e_iald, e_bald, e_aald, e_alen, e_iast, e_bast, e_aast, e_acopy, e_callS, e_callV, e_callI, e_obj, zg0, zg1, zg2, zg3, zg4, zg5, zg6, zg7, zg8, zg9, zg10, zg11, zg12, zg13, zg14, zg15, zg16, zg17, zg18, zg19, zg20, zg21, zg22, zg23, zt0, zt1, zt2, zt3, zt4, zt5, zt6, zt7, zt8, zt9, zt10, zt11, zt12, zt13, zt14, zt15, zt16, zt17, zt18, zt19, zt20, zt21, zt22, zt23, zsi, zsr, zsl, zsu, zs1, zs2, zs3, zs4, zs5, zs6, zs7, zs8, zs9, zs10, zs11, zs12, zs13, zp0, zp1, zp2, zp3, zp4, zp5, zp6, zm0, zm1, zm2, zm3, zm4, zty0, zty2, zty3, zty10, zty11, zkin_self, ztab_self, zup_app, bx_uu, Option.map_some, decide_eq_true_eq, if_true, if_false, ite_true, ite_false, true_and, and_true, Option.toList_some, Option.toList_none, List.cons_append, List.nil_append, reduceIte, List.length_cons, List.length_nil, Nat.reduceAdd, Nat.reduceLT, Nat.reduceEqDiff, Nat.reduceLeDiff, and_self, not_true_eq_false, not_false_eq_true, Int32.reduceSub, Int32.reduceAdd, Int32.reduceToNatClampNeg, Int32.reduceLE, Int32.reduceLT]
  · simp only [zup_app]
    rw [if_neg x, if_neg (by omega), if_neg (by omega), if_neg (by omega)]
theorem sM_tdH {g : Nat → Int32} (h168 : M 168 = mQ tr n lt A st so va fa hn) : ∀ (k i : Nat), i + k = 9 → ∀ (Mc : zHp) (f : Nat → Int32), (∀ a, ¬ a = 171 → Mc a = M a) → Mc 171 = .inl (0, 18, .inl f) → (∀ j, j < i → f j = g (9 + j)) → (∀ j, 9 ≤ j → f j = g j) → ∃ (M' : zHp) (f' : Nat → Int32), (∀ a, ¬ a = 171 → M' a = M a) ∧ M' 171 = .inl (0, 18, .inl f') ∧ (∀ j, j < 9 → f' j = g (9 + j)) ∧ ∀ F : zF, zGo d mM_takeDraft 77 ([.ref 168, .int (nI 9)], [], M', N, S) F → zGo d mM_takeDraft 50 ([.ref 168, .int (nI i)], [], Mc, N, S) F := by
  intro k
  induction k with
  | zero =>
    intro i hi Mc f fr h171 hf hg
    obtain rfl : i = 9 := by omega
    refine ⟨Mc, f, fr, h171, hf, fun F hF => ?_⟩
    refine tM_takeDraft_50 _ _ _ ?_
    simp only [bM_takeDraft_50, show ((9 : Int32) ≤ nI 9) = True by decide, e_const, e_lconst, e_iload, e_aload, e_lload, e_istore, e_astore, e_lstore, e_iinc, e_bin, e_un, e_div, e_mm, e_ladd, e_lcmp, e_dupi, e_dupr, e_dup2, e_popi, e_goto, e_if, e_icmp, e_sw, e_ret, e_zret0, e_zret1, e_zretb, bI_0, bI_1, bI_t, bI_f, i32_10, i32_01, e_lret, e_vret, e_getf, e_putf, e_iald, e_bald, e_aald, e_alen, e_iast, e_bast, e_aast, e_acopy, e_callS, e_callV, e_callI, e_obj, zg0, zg1, zg2, zg3, zg4, zg5, zg6, zg7, zg8, zg9, zg10, zg11, zg12, zg13, zg14, zg15, zg16, zg17, zg18, zg19, zg20, zg21, zg22, zg23, zt0, zt1, zt2, zt3, zt4, zt5, zt6, zt7, zt8, zt9, zt10, zt11, zt12, zt13, zt14, zt15, zt16, zt17, zt18, zt19, zt20, zt21, zt22, zt23, zsi, zsr, zsl, zsu, zs1, zs2, zs3, zs4, zs5, zs6, zs7, zs8, zs9, zs10, zs11, zs12, zs13, zp0, zp1, zp2, zp3, zp4, zp5, zp6, zm0, zm1, zm2, zm3, zm4, zty0, zty2, zty3, zty10, zty11, zkin_self, ztab_self, zup_app, bx_uu, Option.map_some, decide_eq_true_eq, if_true, if_false, ite_true, ite_false, true_and, and_true, Option.toList_some, Option.toList_none, List.cons_append, List.nil_append, reduceIte, List.length_cons, List.length_nil, Nat.reduceAdd, Nat.reduceLT, Nat.reduceEqDiff, Nat.reduceLeDiff, and_self, not_true_eq_false, not_false_eq_true, Int32.reduceSub, Int32.reduceAdd, Int32.reduceToNatClampNeg, Int32.reduceLE, Int32.reduceLT]
    exact hF
  | succ k ih =>
    intro i hi Mc f fr h171 hf hg
    have h168' := (fr 168 (by omega)).trans h168
    have zi : zix (nI i) 18 = some i := zix_nI (by omega) (by decide)
    have z9 : zix (9 + nI i) 18 = some (9 + i) := zix_eq (by rw [show (9 : Int32) = nI 9 from rfl, nI_add]) (by omega) (by decide)
    obtain ⟨M', f', q1, q2, q3, q4⟩ := ih (i + 1) (by omega) (va_up Mc 171 (.inl (0, 18, .inl (upd f i (f (9 + i)))))) (upd f i (f (9 + i))) (fun a x => by simp only [zup_app]; rw [if_neg x]; exact fr a x) rfl (fun j hj => by
      by_cases c : j = i
      · subst c
        rw [pk_us]; exact hg _ (by omega)
      · rw [pk_un c]; exact hf j (by omega)) (fun j hj => by rw [pk_un (by omega)]; exact hg j hj)
    refine ⟨M', f', q1, q2, q3, fun F hF => ?_⟩
    refine tM_takeDraft_50 _ _ _ ?_
    simp only [bM_takeDraft_50, show ((9 : Int32) ≤ nI i) = False from eq_false (nI_ge (b := 9) (by omega) (by decide)), h168', mQ, h171, zi, z9, nI_1, e_const, e_lconst, e_iload, e_aload, e_lload, e_istore, e_astore, e_lstore, e_iinc, e_bin, e_un, e_div, e_mm, e_ladd, e_lcmp, e_dupi, e_dupr, e_dup2, e_popi, e_goto, e_if, e_icmp, e_sw, e_ret, e_zret0, e_zret1, e_zretb, bI_0, bI_1, bI_t, bI_f, i32_10, i32_01, e_lret, e_vret, e_getf, e_putf, e_iald, e_bald, e_aald, e_alen, e_iast, e_bast, e_aast, e_acopy, e_callS, e_callV, e_callI, e_obj, zg0, zg1, zg2, zg3, zg4, zg5, zg6, zg7, zg8, zg9, zg10, zg11, zg12, zg13, zg14, zg15, zg16, zg17, zg18, zg19, zg20, zg21, zg22, zg23, zt0, zt1, zt2, zt3, zt4, zt5, zt6, zt7, zt8, zt9, zt10, zt11, zt12, zt13, zt14, zt15, zt16, zt17, zt18, zt19, zt20, zt21, zt22, zt23, zsi, zsr, zsl, zsu, zs1, zs2, zs3, zs4, zs5, zs6, zs7, zs8, zs9, zs10, zs11, zs12, zs13, zp0, zp1, zp2, zp3, zp4, zp5, zp6, zm0, zm1, zm2, zm3, zm4, zty0, zty2, zty3, zty10, zty11, zkin_self, ztab_self, zup_app, bx_uu, Option.map_some, decide_eq_true_eq, if_true, if_false, ite_true, ite_false, true_and, and_true, Option.toList_some, Option.toList_none, List.cons_append, List.nil_append, reduceIte, List.length_cons, List.length_nil, Nat.reduceAdd, Nat.reduceLT, Nat.reduceEqDiff, Nat.reduceLeDiff, and_self, not_true_eq_false, not_false_eq_true, Int32.reduceSub, Int32.reduceAdd, Int32.reduceToNatClampNeg, Int32.reduceLE, Int32.reduceLT]
    exact q4 F hF
theorem sM_tdZ {w : Value} (hw : w = .retAddr 0 ∨ ∃ z : Int32, w = .int z) (h168 : M 168 = mQ tr n lt A st so va fa hn) : ∀ (k i : Nat), i + k = 22 → ∀ (Mc : zHp) (f : Nat → Int32), (∀ a, ¬ a = 177 → Mc a = M a) → Mc 177 = .inl (0, 729, .inl f) → (∀ j, j < i → f j = 0) → ∃ (M' : zHp) (f' : Nat → Int32), (∀ a, ¬ a = 177 → M' a = M a) ∧ M' 177 = .inl (0, 729, .inl f') ∧ (∀ j, j < 22 → f' j = 0) ∧ ∀ F : zF, zGo d mM_takeDraft 98 ([.ref 168, .int (nI 22)], [], M', N, S) F → zGo d mM_takeDraft 79 ([.ref 168, .int (nI i)], [], Mc, N, S) F := by
  intro k
  induction k with
  | zero =>
    intro i hi Mc f fr h177 hf
    obtain rfl : i = 22 := by omega
    refine ⟨Mc, f, fr, h177, hf, fun F hF => ?_⟩
    refine tM_takeDraft_79 _ _ _ ?_
    simp only [bM_takeDraft_79, show ((22 : Int32) ≤ nI 22) = True by decide, e_const, e_lconst, e_iload, e_aload, e_lload, e_istore, e_astore, e_lstore, e_iinc, e_bin, e_un, e_div, e_mm, e_ladd, e_lcmp, e_dupi, e_dupr, e_dup2, e_popi, e_goto, e_if, e_icmp, e_sw, e_ret, e_zret0, e_zret1, e_zretb, bI_0, bI_1, bI_t, bI_f, i32_10, i32_01, e_lret, e_vret, e_getf, e_putf, e_iald, e_bald, e_aald, e_alen, e_iast, e_bast, e_aast, e_acopy, e_callS, e_callV, e_callI, e_obj, zg0, zg1, zg2, zg3, zg4, zg5, zg6, zg7, zg8, zg9, zg10, zg11, zg12, zg13, zg14, zg15, zg16, zg17, zg18, zg19, zg20, zg21, zg22, zg23, zt0, zt1, zt2, zt3, zt4, zt5, zt6, zt7, zt8, zt9, zt10, zt11, zt12, zt13, zt14, zt15, zt16, zt17, zt18, zt19, zt20, zt21, zt22, zt23, zsi, zsr, zsl, zsu, zs1, zs2, zs3, zs4, zs5, zs6, zs7, zs8, zs9, zs10, zs11, zs12, zs13, zp0, zp1, zp2, zp3, zp4, zp5, zp6, zm0, zm1, zm2, zm3, zm4, zty0, zty2, zty3, zty10, zty11, zkin_self, ztab_self, zup_app, bx_uu, Option.map_some, decide_eq_true_eq, if_true, if_false, ite_true, ite_false, true_and, and_true, Option.toList_some, Option.toList_none, List.cons_append, List.nil_append, reduceIte, List.length_cons, List.length_nil, Nat.reduceAdd, Nat.reduceLT, Nat.reduceEqDiff, Nat.reduceLeDiff, and_self, not_true_eq_false, not_false_eq_true, Int32.reduceSub, Int32.reduceAdd, Int32.reduceToNatClampNeg, Int32.reduceLE, Int32.reduceLT]
    exact hF
  | succ k ih =>
    intro i hi Mc f fr h177 hf
    have h168' := (fr 168 (by omega)).trans h168
    have zi : zix (nI i) 729 = some i := zix_nI (by omega) (by decide)
    obtain ⟨M', f', q1, q2, q3, q4⟩ := ih (i + 1) (by omega) (va_up Mc 177 (.inl (0, 729, .inl (upd f i 0)))) (upd f i 0) (fun a x => by simp only [zup_app]; rw [if_neg x]; exact fr a x) rfl (fun j hj => by
      by_cases c : j = i
      · subst c
        rw [pk_us]
      · rw [pk_un c]; exact hf j (by omega))
    refine ⟨M', f', q1, q2, q3, fun F hF => ?_⟩
    refine tM_takeDraft_79 _ _ _ ?_
    simp only [bM_takeDraft_79, show ((22 : Int32) ≤ nI i) = False from eq_false (nI_ge (b := 22) (by omega) (by decide)), h168', mQ, h177, zi, nI_1, e_const, e_lconst, e_iload, e_aload, e_lload, e_istore, e_astore, e_lstore, e_iinc, e_bin, e_un, e_div, e_mm, e_ladd, e_lcmp, e_dupi, e_dupr, e_dup2, e_popi, e_goto, e_if, e_icmp, e_sw, e_ret, e_zret0, e_zret1, e_zretb, bI_0, bI_1, bI_t, bI_f, i32_10, i32_01, e_lret, e_vret, e_getf, e_putf, e_iald, e_bald, e_aald, e_alen, e_iast, e_bast, e_aast, e_acopy, e_callS, e_callV, e_callI, e_obj, zg0, zg1, zg2, zg3, zg4, zg5, zg6, zg7, zg8, zg9, zg10, zg11, zg12, zg13, zg14, zg15, zg16, zg17, zg18, zg19, zg20, zg21, zg22, zg23, zt0, zt1, zt2, zt3, zt4, zt5, zt6, zt7, zt8, zt9, zt10, zt11, zt12, zt13, zt14, zt15, zt16, zt17, zt18, zt19, zt20, zt21, zt22, zt23, zsi, zsr, zsl, zsu, zs1, zs2, zs3, zs4, zs5, zs6, zs7, zs8, zs9, zs10, zs11, zs12, zs13, zp0, zp1, zp2, zp3, zp4, zp5, zp6, zm0, zm1, zm2, zm3, zm4, zty0, zty2, zty3, zty10, zty11, zkin_self, ztab_self, zup_app, bx_uu, Option.map_some, decide_eq_true_eq, if_true, if_false, ite_true, ite_false, true_and, and_true, Option.toList_some, Option.toList_none, List.cons_append, List.nil_append, reduceIte, List.length_cons, List.length_nil, Nat.reduceAdd, Nat.reduceLT, Nat.reduceEqDiff, Nat.reduceLeDiff, and_self, not_true_eq_false, not_false_eq_true, Int32.reduceSub, Int32.reduceAdd, Int32.reduceToNatClampNeg, Int32.reduceLE, Int32.reduceLT]
    exact q4 F hF
theorem sM_tdP {g3 g4 g5 : Nat → Int32} (h168 : M 168 = mQ tr n lt A st so va fa hn) (h173 : M 173 = .inl (0, 6, .inl g3)) : ∀ (k i : Nat), i + k = 6 → ∀ (Mc : zHp) (f4 f5 f7 : Nat → Int32), (∀ a, ¬ a = 174 → ¬ a = 175 → ¬ a = 177 → Mc a = M a) → Mc 174 = .inl (0, 12, .inl f4) → Mc 175 = .inl (0, 12, .inl f5) → Mc 177 = .inl (0, 729, .inl f7) → (∀ j, j < i → f4 j = g4 (6 + j)) → (∀ j, 6 ≤ j → f4 j = g4 j) → (∀ j, j < i → f5 j = g5 (6 + j)) → (∀ j, 6 ≤ j → f5 j = g5 j) → (∀ j, j < i → f7 j = g3 j ∧ f7 (6 + j) = g3 j ∧ f7 (12 + j) = g5 (6 + j)) → (∀ j, 18 ≤ j → j < 22 → f7 j = 0) → ∃ (M' : zHp) (e4 e5 e7 : Nat → Int32), (∀ a, ¬ a = 174 → ¬ a = 175 → ¬ a = 177 → M' a = M a) ∧ M' 174 = .inl (0, 12, .inl e4) ∧ M' 175 = .inl (0, 12, .inl e5) ∧ M' 177 = .inl (0, 729, .inl e7) ∧ (∀ j, j < 6 → e4 j = g4 (6 + j)) ∧ (∀ j, j < 6 → e5 j = g5 (6 + j)) ∧ (∀ j, j < 6 → e7 j = g3 j ∧ e7 (6 + j) = g3 j ∧ e7 (12 + j) = g5 (6 + j)) ∧ (∀ j, 18 ≤ j → j < 22 → e7 j = 0) ∧ ∀ F : zF, zGo d mM_takeDraft 186 ([.ref 168, .int (nI 6)], [], M', N, S) F → zGo d mM_takeDraft 100 ([.ref 168, .int (nI i)], [], Mc, N, S) F := by
  intro k
  induction k with
  | zero =>
    intro i hi Mc f4 f5 f7 fr h174 h175 h177 p4 q4 p5 q5 p7 q7
    obtain rfl : i = 6 := by omega
    refine ⟨Mc, f4, f5, f7, fr, h174, h175, h177, p4, p5, p7, q7, fun F hF => ?_⟩
    refine tM_takeDraft_100 _ _ _ ?_
    simp only [bM_takeDraft_100, show ((6 : Int32) ≤ nI 6) = True by decide, e_const, e_lconst, e_iload, e_aload, e_lload, e_istore, e_astore, e_lstore, e_iinc, e_bin, e_un, e_div, e_mm, e_ladd, e_lcmp, e_dupi, e_dupr, e_dup2, e_popi, e_goto, e_if, e_icmp, e_sw, e_ret, e_zret0, e_zret1, e_zretb, bI_0, bI_1, bI_t, bI_f, i32_10, i32_01, e_lret, e_vret, e_getf, e_putf, e_iald, e_bald, e_aald, e_alen, e_iast, e_bast, e_aast, e_acopy, e_callS, e_callV, e_callI, e_obj, zg0, zg1, zg2, zg3, zg4, zg5, zg6, zg7, zg8, zg9, zg10, zg11, zg12, zg13, zg14, zg15, zg16, zg17, zg18, zg19, zg20, zg21, zg22, zg23, zt0, zt1, zt2, zt3, zt4, zt5, zt6, zt7, zt8, zt9, zt10, zt11, zt12, zt13, zt14, zt15, zt16, zt17, zt18, zt19, zt20, zt21, zt22, zt23, zsi, zsr, zsl, zsu, zs1, zs2, zs3, zs4, zs5, zs6, zs7, zs8, zs9, zs10, zs11, zs12, zs13, zp0, zp1, zp2, zp3, zp4, zp5, zp6, zm0, zm1, zm2, zm3, zm4, zty0, zty2, zty3, zty10, zty11, zkin_self, ztab_self, zup_app, bx_uu, Option.map_some, decide_eq_true_eq, if_true, if_false, ite_true, ite_false, true_and, and_true, Option.toList_some, Option.toList_none, List.cons_append, List.nil_append, reduceIte, List.length_cons, List.length_nil, Nat.reduceAdd, Nat.reduceLT, Nat.reduceEqDiff, Nat.reduceLeDiff, and_self, not_true_eq_false, not_false_eq_true, Int32.reduceSub, Int32.reduceAdd, Int32.reduceToNatClampNeg, Int32.reduceLE, Int32.reduceLT]
    exact hF
  | succ k ih =>
    intro i hi Mc f4 f5 f7 fr h174 h175 h177 p4 q4 p5 q5 p7 q7
    have h168' := (fr 168 (by omega) (by omega) (by omega)).trans h168
    have h173' := (fr 173 (by omega) (by omega) (by omega)).trans h173
    have zi : zix (nI i) 6 = some i := zix_nI (by omega) (by decide)
    have zi12 : zix (nI i) 12 = some i := zix_nI (by omega) (by decide)
    have z6 : zix (6 + nI i) 12 = some (6 + i) := zix_eq (by rw [show (6 : Int32) = nI 6 from rfl, nI_add]) (by omega) (by decide)
    have y0 : zix (0 + nI i) 729 = some i := zix_eq (by rw [show (0 : Int32) = nI 0 from rfl, nI_add, Nat.zero_add]) (by omega) (by decide)
    have y6 : zix (6 + nI i) 729 = some (6 + i) := zix_eq (by rw [show (6 : Int32) = nI 6 from rfl, nI_add]) (by omega) (by decide)
    have y12 : zix (12 + nI i) 729 = some (12 + i) := zix_eq (by rw [show (12 : Int32) = nI 12 from rfl, nI_add]) (by omega) (by decide)
    have nge : ((6 : Int32) ≤ nI i) = False := eq_false (nI_ge (b := 6) (by omega) (by decide))
    have hex := ih (i + 1) (by omega) (va_up (va_up (va_up Mc 174 (.inl (0, 12, .inl (upd f4 i (f4 (6 + i)))))) 175 (.inl (0, 12, .inl (upd f5 i (f5 (6 + i)))))) 177 (.inl (0, 729, .inl (upd (upd (upd f7 i (g3 i)) (6 + i) (g3 i)) (12 + i) (f5 (6 + i)))))) (upd f4 i (f4 (6 + i))) (upd f5 i (f5 (6 + i))) (upd (upd (upd f7 i (g3 i)) (6 + i) (g3 i)) (12 + i) (f5 (6 + i))) (fun a x y z => by simp only [zup_app]; rw [if_neg z, if_neg y, if_neg x]; exact fr a x y z) rfl rfl rfl (fun j hj => by
      by_cases c : j = i
      · subst c
        rw [pk_us]; exact q4 _ (by omega)
      · rw [pk_un c]; exact p4 j (by omega)) (fun j hj => by rw [pk_un (by omega)]; exact q4 j hj) (fun j hj => by
      by_cases c : j = i
      · subst c
        rw [pk_us]; exact q5 _ (by omega)
      · rw [pk_un c]; exact p5 j (by omega)) (fun j hj => by rw [pk_un (by omega)]; exact q5 j hj) (fun j hj => by
      by_cases c : j = i
      · subst c
        refine ⟨?_, ?_, ?_⟩
        · rw [pk_un (by omega), pk_un (by omega), pk_us]
        · rw [pk_un (by omega), pk_us]
        · rw [pk_us]; exact q5 _ (by omega)
      · obtain ⟨u1, u2, u3⟩ := p7 j (by omega)
        refine ⟨?_, ?_, ?_⟩
        · rw [pk_un (by omega), pk_un (by omega), pk_un c]; exact u1
        · rw [pk_un (by omega), pk_un (by omega), pk_un (by omega)]; exact u2
        · rw [pk_un (by omega), pk_un (by omega), pk_un (by omega)]; exact u3) (fun j h1 h2 => by rw [pk_un (by omega), pk_un (by omega), pk_un (by omega)]; exact q7 j h1 h2)
    obtain ⟨M', e4, e5, e7, w1, w2, w3, w4, w5, w6, w7, w8, w9⟩ := hex
    refine ⟨M', e4, e5, e7, w1, w2, w3, w4, w5, w6, w7, w8, fun F hF => ?_⟩
    refine tM_takeDraft_100 _ _ _ ?_
    simp only [bM_takeDraft_100, nge, h168', mQ, h173', h174, h175, h177, zi, zi12, z6, y0, y6, y12, pk_us, nI_1, e_const, e_lconst, e_iload, e_aload, e_lload, e_istore, e_astore, e_lstore, e_iinc, e_bin, e_un, e_div, e_mm, e_ladd, e_lcmp, e_dupi, e_dupr, e_dup2, e_popi, e_goto, e_if, e_icmp, e_sw, e_ret, e_zret0, e_zret1, e_zretb, bI_0, bI_1, bI_t, bI_f, i32_10, i32_01, e_lret, e_vret, e_getf, e_putf, e_iald, e_bald, e_aald, e_alen, e_iast, e_bast, e_aast, e_acopy, e_callS, e_callV, e_callI, e_obj, zg0, zg1, zg2, zg3, zg4, zg5, zg6, zg7, zg8, zg9, zg10, zg11, zg12, zg13, zg14, zg15, zg16, zg17, zg18, zg19, zg20, zg21, zg22, zg23, zt0, zt1, zt2, zt3, zt4, zt5, zt6, zt7, zt8, zt9, zt10, zt11, zt12, zt13, zt14, zt15, zt16, zt17, zt18, zt19, zt20, zt21, zt22, zt23, zsi, zsr, zsl, zsu, zs1, zs2, zs3, zs4, zs5, zs6, zs7, zs8, zs9, zs10, zs11, zs12, zs13, zp0, zp1, zp2, zp3, zp4, zp5, zp6, zm0, zm1, zm2, zm3, zm4, zty0, zty2, zty3, zty10, zty11, zkin_self, ztab_self, zup_app, bx_uu, Option.map_some, decide_eq_true_eq, if_true, if_false, ite_true, ite_false, true_and, and_true, Option.toList_some, Option.toList_none, List.cons_append, List.nil_append, reduceIte, List.length_cons, List.length_nil, Nat.reduceAdd, Nat.reduceLT, Nat.reduceEqDiff, Nat.reduceLeDiff, and_self, not_true_eq_false, not_false_eq_true, Int32.reduceSub, Int32.reduceAdd, Int32.reduceToNatClampNeg, Int32.reduceLE, Int32.reduceLT]
    exact w9 F hF
theorem sM_takeDraft (h168 : M 168 = mQ tr n lt A st so va fa hn) (hB : mB nh np hall er tp tax warm D M) (hw : wfD D) (hN : mN nw M) {k0 k1 : Bool} (hK : mK k0 k1 M) : ∃ M', zRuns d mM_takeDraft [.ref 168] M N S (none, M', N, S) ∧ (∀ k, ¬ k = 168 → ¬ (170 ≤ k ∧ k ≤ 178) → M' k = M k) ∧ M' 168 = mQ tr n lt A st so va fa 0 ∧ mT (D 0) (D 1) (fun j => nI (D (10 + j))) (fun j => nI (D (30 + j))) (fun j => nI (D (40 + j))) (nI (D 2)) (nI (D 3)) M' ∧ mK false false M' ∧ ∃ nw', mN nw' M' ∧ (∀ j, j < D 1 → nw' j = nI (D (20 + j)) ∧ nw' (6 + j) = nI (D (20 + j)) ∧ nw' (12 + j) = nI (D (40 + j))) ∧ nw' 18 = 0 ∧ nw' 19 = 0 ∧ nw' 20 = 0 ∧ nw' 21 = -9 ∧ nw' 22 = 0 := by
  obtain ⟨⟨f0, a0, b0, c0⟩, ⟨f1, a1, b1, c1⟩, ⟨f2, a2, b2, c2⟩, ⟨f3, a3, c3⟩, ⟨f4, a4, b4, c4⟩, ⟨f5, a5, b5, c5⟩, f6, a6, b6, c6, d6, e6⟩ := hB
  have h09 := hw.1
  have h16 := hw.2.1
  unfold mN at hN
  obtain ⟨fk, hK, -, -⟩ := hK
  have z02 : zix 0 2 = some 0 := by decide
  have z1 : zix 1 2 = some 1 := by decide
  have z0 : zix 0 4 = some 0 := by decide
  have z14 : zix 1 4 = some 1 := by decide
  have z2 : zix 2 4 = some 2 := by decide
  have z3 : zix 3 4 = some 3 := by decide
  have z21 : zix 21 729 = some 21 := by decide
  have z22 : zix 22 729 = some 22 := by decide
  have u3 : upd f6 0 (f6 2) 3 = f6 3 := pk_un (by decide)
  have frA : ∀ a, ¬ a = 170 → ¬ a = 172 → ¬ a = 176 → va_up (va_up (va_up M 170 (.inl (0, 2, .inl (upd f0 0 (f0 1))))) 172 (.inl (0, 2, .inl (upd f2 0 (f2 1))))) 176 (.inl (0, 4, .inl (upd (upd f6 0 (f6 2)) 1 (f6 3)))) a = M a := fun a x y z => by simp only [zup_app]; rw [if_neg z, if_neg y, if_neg x]
  generalize hMA : va_up (va_up (va_up M 170 (.inl (0, 2, .inl (upd f0 0 (f0 1))))) 172 (.inl (0, 2, .inl (upd f2 0 (f2 1))))) 176 (.inl (0, 4, .inl (upd (upd f6 0 (f6 2)) 1 (f6 3)))) = MA at frA
  have eA0 : MA 170 = .inl (0, 2, .inl (upd f0 0 (f0 1))) := by rw [← hMA]; rfl
  have eA2 : MA 172 = .inl (0, 2, .inl (upd f2 0 (f2 1))) := by rw [← hMA]; rfl
  have eA6 : MA 176 = .inl (0, 4, .inl (upd (upd f6 0 (f6 2)) 1 (f6 3))) := by rw [← hMA]; rfl
  have h168A := (frA 168 (by omega) (by omega) (by omega)).trans h168
  obtain ⟨MH, fh, r1, r2, r3, r4⟩ := sM_tdH (d := d) (N := N) (S := S) (g := f1) h168A 9 0 (by omega) MA f1 (fun _ _ => rfl) ((frA 171 (by omega) (by omega) (by omega)).trans a1) (fun j hj => by omega) (fun j hj => rfl)
  have h168H := (r1 168 (by omega)).trans h168A
  obtain ⟨MZ, fz, s1, s2, s3, s4⟩ := sM_tdZ (d := d) (N := N) (S := S) (w := .int 0) (Or.inr ⟨_, rfl⟩) h168H 22 0 (by omega) MH nw (fun _ _ => rfl) ((r1 177 (by omega)).trans ((frA 177 (by omega) (by omega) (by omega)).trans hN)) (fun j hj => by omega)
  have h168Z := (s1 168 (by omega)).trans h168H
  have frZ : ∀ a, ¬ a = 170 → ¬ a = 171 → ¬ a = 172 → ¬ a = 176 → ¬ a = 177 → MZ a = M a := fun a x y z u v => (s1 a v).trans ((r1 a y).trans (frA a x z u))
  obtain ⟨MP, e4, e5, e7, t1, t2, t3, t4, t5, t6, t7, t8, t9⟩ := sM_tdP (d := d) (N := N) (S := S) (g3 := f3) (g4 := f4) (g5 := f5) h168Z ((frZ 173 (by omega) (by omega) (by omega) (by omega) (by omega)).trans a3) 6 0 (by omega) MZ f4 f5 fz (fun _ _ _ _ => rfl) ((frZ 174 (by omega) (by omega) (by omega) (by omega) (by omega)).trans a4) ((frZ 175 (by omega) (by omega) (by omega) (by omega) (by omega)).trans a5) s2 (fun j hj => by omega) (fun j hj => rfl) (fun j hj => by omega) (fun j hj => rfl) (fun j hj => by omega) (fun j h1 h2 => s3 j h2)
  have h168P := (t1 168 (by omega) (by omega) (by omega)).trans h168Z
  have hKP : MP 178 = .inl (2, 2, .inl fk) := ((t1 178 (by omega) (by omega) (by omega)).trans (frZ 178 (by omega) (by omega) (by omega) (by omega) (by omega))).trans hK
  have frE : ∀ a, ¬ a = 177 → ¬ a = 168 → ¬ a = 178 → va_up (va_up (va_up MP 177 (.inl (0, 729, .inl (upd (upd e7 21 (-9)) 22 0)))) 168 (mQ tr n lt A st so va fa 0)) 178 (.inl (2, 2, .inl (upd (upd fk 0 (0 &&& 1)) 1 (0 &&& 1)))) a = MP a := fun a x y z => by simp only [zup_app]; rw [if_neg z, if_neg y, if_neg x]
  refine ⟨va_up (va_up (va_up MP 177 (.inl (0, 729, .inl (upd (upd e7 21 (-9)) 22 0)))) 168 (mQ tr n lt A st so va fa 0)) 178 (.inl (2, 2, .inl (upd (upd fk 0 (0 &&& 1)) 1 (0 &&& 1)))), ?_, fun k x y => (frE k (by omega) x (by omega)).trans ((t1 k (by omega) (by omega) (by omega)).trans (frZ k (by omega) (by omega) (by omega) (by omega) (by omega))), rfl, ?_, ⟨_, rfl, by rw [pk_un (by decide), pk_us]; decide, by rw [pk_us]; decide⟩, upd (upd e7 21 (-9)) 22 0, rfl, fun j hj => ?_, ?_, ?_, ?_, ?_, ?_⟩
  · refine zenter (n := 1) kM_takeDraft rfl rfl ?_
    refine tM_takeDraft_0 _ _ _ ?_
    simp only [bM_takeDraft_0, h168, mQ, a0, a2, a6, z02, z1, z0, z14, z2, z3, u3, List.replicate, e_const, e_lconst, e_iload, e_aload, e_lload, e_istore, e_astore, e_lstore, e_iinc, e_bin, e_un, e_div, e_mm, e_ladd, e_lcmp, e_dupi, e_dupr, e_dup2, e_popi, e_goto, e_if, e_icmp, e_sw, e_ret, e_zret0, e_zret1, e_zretb, bI_0, bI_1, bI_t, bI_f, i32_10, i32_01, e_lret, e_vret, e_getf, e_putf, e_iald, e_bald, e_aald, e_alen, e_iast, e_bast, e_aast, e_acopy, e_callS, e_callV, e_callI, e_obj, zg0, zg1, zg2, zg3, zg4, zg5, zg6, zg7, zg8, zg9, zg10, zg11, zg12, zg13, zg14, zg15, zg16, zg17, zg18, zg19, zg20, zg21, zg22, zg23, zt0, zt1, zt2, zt3, zt4, zt5, zt6, zt7, zt8, zt9, zt10, zt11, zt12, zt13, zt14, zt15, zt16, zt17, zt18, zt19, zt20, zt21, zt22, zt23, zsi, zsr, zsl, zsu, zs1, zs2, zs3, zs4, zs5, zs6, zs7, zs8, zs9, zs10, zs11, zs12, zs13, zp0, zp1, zp2, zp3, zp4, zp5, zp6, zm0, zm1, zm2, zm3, zm4, zty0, zty2, zty3, zty10, zty11, zkin_self, ztab_self, zup_app, bx_uu, Option.map_some, decide_eq_true_eq, if_true, if_false, ite_true, ite_false, true_and, and_true, Option.toList_some, Option.toList_none, List.cons_append, List.nil_append, reduceIte, List.length_cons, List.length_nil, Nat.reduceAdd, Nat.reduceLT, Nat.reduceEqDiff, Nat.reduceLeDiff, and_self, not_true_eq_false, not_false_eq_true, Int32.reduceSub, Int32.reduceAdd, Int32.reduceToNatClampNeg, Int32.reduceLE, Int32.reduceLT]
    rw [hMA]
    refine r4 _ ?_
    refine tM_takeDraft_77 _ _ _ ?_
    simp only [bM_takeDraft_77, e_const, e_lconst, e_iload, e_aload, e_lload, e_istore, e_astore, e_lstore, e_iinc, e_bin, e_un, e_div, e_mm, e_ladd, e_lcmp, e_dupi, e_dupr, e_dup2, e_popi, e_goto, e_if, e_icmp, e_sw, e_ret, e_zret0, e_zret1, e_zretb, bI_0, bI_1, bI_t, bI_f, i32_10, i32_01, e_lret, e_vret, e_getf, e_putf, e_iald, e_bald, e_aald, e_alen, e_iast, e_bast, e_aast, e_acopy, e_callS, e_callV, e_callI, e_obj, zg0, zg1, zg2, zg3, zg4, zg5, zg6, zg7, zg8, zg9, zg10, zg11, zg12, zg13, zg14, zg15, zg16, zg17, zg18, zg19, zg20, zg21, zg22, zg23, zt0, zt1, zt2, zt3, zt4, zt5, zt6, zt7, zt8, zt9, zt10, zt11, zt12, zt13, zt14, zt15, zt16, zt17, zt18, zt19, zt20, zt21, zt22, zt23, zsi, zsr, zsl, zsu, zs1, zs2, zs3, zs4, zs5, zs6, zs7, zs8, zs9, zs10, zs11, zs12, zs13, zp0, zp1, zp2, zp3, zp4, zp5, zp6, zm0, zm1, zm2, zm3, zm4, zty0, zty2, zty3, zty10, zty11, zkin_self, ztab_self, zup_app, bx_uu, Option.map_some, decide_eq_true_eq, if_true, if_false, ite_true, ite_false, true_and, and_true, Option.toList_some, Option.toList_none, List.cons_append, List.nil_append, reduceIte, List.length_cons, List.length_nil, Nat.reduceAdd, Nat.reduceLT, Nat.reduceEqDiff, Nat.reduceLeDiff, and_self, not_true_eq_false, not_false_eq_true, Int32.reduceSub, Int32.reduceAdd, Int32.reduceToNatClampNeg, Int32.reduceLE, Int32.reduceLT]
    refine s4 _ ?_
    refine tM_takeDraft_98 _ _ _ ?_
    simp only [bM_takeDraft_98, e_const, e_lconst, e_iload, e_aload, e_lload, e_istore, e_astore, e_lstore, e_iinc, e_bin, e_un, e_div, e_mm, e_ladd, e_lcmp, e_dupi, e_dupr, e_dup2, e_popi, e_goto, e_if, e_icmp, e_sw, e_ret, e_zret0, e_zret1, e_zretb, bI_0, bI_1, bI_t, bI_f, i32_10, i32_01, e_lret, e_vret, e_getf, e_putf, e_iald, e_bald, e_aald, e_alen, e_iast, e_bast, e_aast, e_acopy, e_callS, e_callV, e_callI, e_obj, zg0, zg1, zg2, zg3, zg4, zg5, zg6, zg7, zg8, zg9, zg10, zg11, zg12, zg13, zg14, zg15, zg16, zg17, zg18, zg19, zg20, zg21, zg22, zg23, zt0, zt1, zt2, zt3, zt4, zt5, zt6, zt7, zt8, zt9, zt10, zt11, zt12, zt13, zt14, zt15, zt16, zt17, zt18, zt19, zt20, zt21, zt22, zt23, zsi, zsr, zsl, zsu, zs1, zs2, zs3, zs4, zs5, zs6, zs7, zs8, zs9, zs10, zs11, zs12, zs13, zp0, zp1, zp2, zp3, zp4, zp5, zp6, zm0, zm1, zm2, zm3, zm4, zty0, zty2, zty3, zty10, zty11, zkin_self, ztab_self, zup_app, bx_uu, Option.map_some, decide_eq_true_eq, if_true, if_false, ite_true, ite_false, true_and, and_true, Option.toList_some, Option.toList_none, List.cons_append, List.nil_append, reduceIte, List.length_cons, List.length_nil, Nat.reduceAdd, Nat.reduceLT, Nat.reduceEqDiff, Nat.reduceLeDiff, and_self, not_true_eq_false, not_false_eq_true, Int32.reduceSub, Int32.reduceAdd, Int32.reduceToNatClampNeg, Int32.reduceLE, Int32.reduceLT]
    refine t9 _ ?_
    refine tM_takeDraft_186 _ _ _ ?_
    simp only [bM_takeDraft_186, h168P, mQ, t4, z21, z22, hKP, z02, z1, nI_0, show (2 = 1) = False by decide, e_const, e_lconst, e_iload, e_aload, e_lload, e_istore, e_astore, e_lstore, e_iinc, e_bin, e_un, e_div, e_mm, e_ladd, e_lcmp, e_dupi, e_dupr, e_dup2, e_popi, e_goto, e_if, e_icmp, e_sw, e_ret, e_zret0, e_zret1, e_zretb, bI_0, bI_1, bI_t, bI_f, i32_10, i32_01, e_lret, e_vret, e_getf, e_putf, e_iald, e_bald, e_aald, e_alen, e_iast, e_bast, e_aast, e_acopy, e_callS, e_callV, e_callI, e_obj, zg0, zg1, zg2, zg3, zg4, zg5, zg6, zg7, zg8, zg9, zg10, zg11, zg12, zg13, zg14, zg15, zg16, zg17, zg18, zg19, zg20, zg21, zg22, zg23, zt0, zt1, zt2, zt3, zt4, zt5, zt6, zt7, zt8, zt9, zt10, zt11, zt12, zt13, zt14, zt15, zt16, zt17, zt18, zt19, zt20, zt21, zt22, zt23, zsi, zsr, zsl, zsu, zs1, zs2, zs3, zs4, zs5, zs6, zs7, zs8, zs9, zs10, zs11, zs12, zs13, zp0, zp1, zp2, zp3, zp4, zp5, zp6, zm0, zm1, zm2, zm3, zm4, zty0, zty2, zty3, zty10, zty11, zkin_self, ztab_self, zup_app, bx_uu, Option.map_some, decide_eq_true_eq, if_true, if_false, ite_true, ite_false, true_and, and_true, Option.toList_some, Option.toList_none, List.cons_append, List.nil_append, reduceIte, List.length_cons, List.length_nil, Nat.reduceAdd, Nat.reduceLT, Nat.reduceEqDiff, Nat.reduceLeDiff, and_self, not_true_eq_false, not_false_eq_true, Int32.reduceSub, Int32.reduceAdd, Int32.reduceToNatClampNeg, Int32.reduceLE, Int32.reduceLT]
  · refine ⟨⟨_, (frE 170 (by omega) (by omega) (by omega)).trans ((t1 170 (by omega) (by omega) (by omega)).trans ((s1 170 (by omega)).trans ((r1 170 (by omega)).trans eA0))), by rw [pk_us]; exact c0⟩, ⟨fh, (frE 171 (by omega) (by omega) (by omega)).trans ((t1 171 (by omega) (by omega) (by omega)).trans ((s1 171 (by omega)).trans r2)), fun j hj => (r3 j (by omega)).trans (c1 j hj)⟩, ⟨_, (frE 172 (by omega) (by omega) (by omega)).trans ((t1 172 (by omega) (by omega) (by omega)).trans ((s1 172 (by omega)).trans ((r1 172 (by omega)).trans eA2))), by rw [pk_us]; exact c2⟩, ⟨f3, (frE 173 (by omega) (by omega) (by omega)).trans ((t1 173 (by omega) (by omega) (by omega)).trans ((frZ 173 (by omega) (by omega) (by omega) (by omega) (by omega)).trans a3))⟩, ⟨e4, (frE 174 (by omega) (by omega) (by omega)).trans t2, fun j hj => (t5 j (by omega)).trans (c4 j hj)⟩, ⟨e5, (frE 175 (by omega) (by omega) (by omega)).trans t3, fun j hj => (t6 j (by omega)).trans (c5 j hj)⟩, _, (frE 176 (by omega) (by omega) (by omega)).trans ((t1 176 (by omega) (by omega) (by omega)).trans ((s1 176 (by omega)).trans ((r1 176 (by omega)).trans eA6))), by rw [pk_un (by decide), pk_us]; exact d6, by rw [pk_us]; exact e6⟩
  · obtain ⟨x1, x2, x3⟩ := t7 j (by omega)
    refine ⟨?_, ?_, ?_⟩
    · rw [pk_un (by omega), pk_un (by omega), x1]; exact c3 j hj
    · rw [pk_un (by omega), pk_un (by omega), x2]; exact c3 j hj
    · rw [pk_un (by omega), pk_un (by omega), x3]; exact c5 j hj
  · rw [pk_un (by decide), pk_un (by decide)]; exact t8 18 (by omega) (by omega)
  · rw [pk_un (by decide), pk_un (by decide)]; exact t8 19 (by omega) (by omega)
  · rw [pk_un (by decide), pk_un (by decide)]; exact t8 20 (by omega) (by omega)
  · rw [pk_un (by decide), pk_us]
  · rw [pk_us]
end TD
