theorem cp_step (f : Nat → Int32) {S D i : Nat} (h : D + i ≤ S + i ∨ S + i < D) : upd (va_cpy f f S D i) (D + i) (f (S + i)) = va_cpy f f S D (i + 1) := by
  funext k
  unfold upd va_cpy
  by_cases c : k = D + i
  · rw [if_pos c, if_pos (by omega)]
    congr 1
    omega
  · rw [if_neg c]
    by_cases c2 : D ≤ k ∧ k < D + i
    · rw [if_pos c2, if_pos (by omega)]
    · rw [if_neg c2, if_neg (by omega)]
theorem cp_at (f : Nat → Int32) {S D i j : Nat} (h : j < D ∨ D + i ≤ j) : va_cpy f f S D i j = f j := pk_cpy_out h
theorem cp_0 (f : Nat → Int32) (S D : Nat) : va_cpy f f S D 0 = f := by
  funext k
  unfold va_cpy
  rw [if_neg (by omega)]
theorem fLose_cpy (v : Nat → Int32) : va_cpy v v 45 23 198 = fLose v := by
  funext k
  unfold va_cpy fLose
  by_cases c : 23 ≤ k ∧ k < 221
  · rw [if_pos (by omega), if_pos c]
    congr 1
    omega
  · rw [if_neg (by omega), if_neg c]
theorem upM_eq (M : zHp) (a : Nat) (c : zAC) (h : M a = c) : va_up M a c = M := by
  funext k
  simp only [zup_app]
  by_cases e : k = a
  · rw [if_pos e, e, h]
  · rw [if_neg e]
section LC
variable {M : zHp} {N S d : Nat} {ty nh np hn : Nat} {tx hall er tp hh hm nw : Nat → Int32} {tax warm : Int32} {tr : Int64} {k0 k1 : Bool}
theorem sM_know2 {m : Nat} {x : Nat → Int32} {w : Value} (hO : mO tr ty hn M) (hm : x 22 = nI m) (hm9 : m < 10) (hw : zset [.ref 168, w] 1 (.int 0) = some [.ref 168, .int 0]) : zGo d mM_know 56 ([.ref 168, w], [], va_up M 177 (.inl (0, 729, .inl x)), N, S) (none, va_up M 177 (.inl (0, 729, .inl (upd (va_cpy x x 0 (23 + 22 * m) 22) 22 (nI (m + 1))))), N, S) := by
  obtain ⟨lt, a, b, c0, e, u, hO⟩ := hO
  refine tM_know_56 _ _ _ ?_
  simp only [bM_know_56, e_const, e_istore, hw, e_goto]
  have z22 : zix 22 729 = some 22 := by decide
  have key := dn_ind (n := 22) (P := fun i => zGo d mM_know 58 ([.ref 168, .int (nI i)], [], va_up M 177 (.inl (0, 729, .inl (va_cpy x x 0 (23 + 22 * m) i))), N, S) (none, va_up M 177 (.inl (0, 729, .inl (upd (va_cpy x x 0 (23 + 22 * m) 22) 22 (nI (m + 1))))), N, S)) ?_ ?_ 0 (Nat.zero_le _)
  · rw [cp_0] at key
    exact key
  · refine tM_know_58 _ _ _ ?_
    simp only [bM_know_58, show nI 22 = 22 by rfl, e_const, e_lconst, e_iload, e_aload, e_lload, e_istore, e_astore, e_lstore, e_iinc, e_bin, e_un, e_div, e_mm, e_ladd, e_lcmp, e_dupi, e_dupr, e_dup2, e_popi, e_goto, e_if, e_icmp, e_sw, e_ret, e_zret0, e_zret1, e_zretb, bI_0, bI_1, bI_t, bI_f, i32_10, i32_01, e_lret, e_vret, e_getf, e_putf, e_iald, e_bald, e_aald, e_alen, e_iast, e_bast, e_aast, e_acopy, e_callS, e_callV, e_callI, e_obj, zg0, zg1, zg2, zg3, zg4, zg5, zg6, zg7, zg8, zg9, zg10, zg11, zg12, zg13, zg14, zg15, zg16, zg17, zg18, zg19, zg20, zg21, zg22, zg23, zt0, zt1, zt2, zt3, zt4, zt5, zt6, zt7, zt8, zt9, zt10, zt11, zt12, zt13, zt14, zt15, zt16, zt17, zt18, zt19, zt20, zt21, zt22, zt23, zsi, zsr, zsl, zsu, zs1, zs2, zs3, zs4, zs5, zs6, zs7, zs8, zs9, zs10, zs11, zs12, zs13, zp0, zp1, zp2, zp3, zp4, zp5, zp6, zm0, zm1, zm2, zm3, zm4, zty0, zty2, zty3, zty10, zty11, zkin_self, ztab_self, zup_app, bx_uu, Option.map_some, decide_eq_true_eq, if_true, if_false, ite_true, ite_false, true_and, and_true, Option.toList_some, Option.toList_none, List.cons_append, List.nil_append, reduceIte, List.length_cons, List.length_nil, Nat.reduceAdd, Nat.reduceLT, Nat.reduceEqDiff, Nat.reduceLeDiff, and_self, not_true_eq_false, not_false_eq_true, Int32.reduceSub, Int32.reduceAdd, Int32.reduceToNatClampNeg, Int32.reduceLE, Int32.reduceLT]
    refine tM_know_96 _ _ _ ?_
    simp only [bM_know_96, hO, z22, cp_at x (show 22 < 23 + 22 * m ∨ 23 + 22 * m + 22 ≤ 22 by omega), hm, nI_1, e_const, e_lconst, e_iload, e_aload, e_lload, e_istore, e_astore, e_lstore, e_iinc, e_bin, e_un, e_div, e_mm, e_ladd, e_lcmp, e_dupi, e_dupr, e_dup2, e_popi, e_goto, e_if, e_icmp, e_sw, e_ret, e_zret0, e_zret1, e_zretb, bI_0, bI_1, bI_t, bI_f, i32_10, i32_01, e_lret, e_vret, e_getf, e_putf, e_iald, e_bald, e_aald, e_alen, e_iast, e_bast, e_aast, e_acopy, e_callS, e_callV, e_callI, e_obj, zg0, zg1, zg2, zg3, zg4, zg5, zg6, zg7, zg8, zg9, zg10, zg11, zg12, zg13, zg14, zg15, zg16, zg17, zg18, zg19, zg20, zg21, zg22, zg23, zt0, zt1, zt2, zt3, zt4, zt5, zt6, zt7, zt8, zt9, zt10, zt11, zt12, zt13, zt14, zt15, zt16, zt17, zt18, zt19, zt20, zt21, zt22, zt23, zsi, zsr, zsl, zsu, zs1, zs2, zs3, zs4, zs5, zs6, zs7, zs8, zs9, zs10, zs11, zs12, zs13, zp0, zp1, zp2, zp3, zp4, zp5, zp6, zm0, zm1, zm2, zm3, zm4, zty0, zty2, zty3, zty10, zty11, zkin_self, ztab_self, zup_app, bx_uu, Option.map_some, decide_eq_true_eq, if_true, if_false, ite_true, ite_false, true_and, and_true, Option.toList_some, Option.toList_none, List.cons_append, List.nil_append, reduceIte, List.length_cons, List.length_nil, Nat.reduceAdd, Nat.reduceLT, Nat.reduceEqDiff, Nat.reduceLeDiff, and_self, not_true_eq_false, not_false_eq_true, Int32.reduceSub, Int32.reduceAdd, Int32.reduceToNatClampNeg, Int32.reduceLE, Int32.reduceLT]
  · intro i hi ih
    refine tM_know_58 _ _ _ ?_
    have z1 : zix (23 + 22 * nI m + nI i) 729 = some (23 + 22 * m + i) := zix_eq (by rw [show (22 : Int32) = nI 22 from rfl, show (23 : Int32) = nI 23 from rfl, pk_mul, nI_add, nI_add]) (by omega) (by decide)
    have z2 : zix (nI i) 729 = some i := zix_nI (by omega) (by decide)
    simp only [bM_know_58, show (22 ≤ nI i) = False from eq_false (nI_ge hi (by decide)), hO, z22, cp_at x (show 22 < 23 + 22 * m ∨ 23 + 22 * m + i ≤ 22 by omega), hm, z1, z2, cp_at x (show i < 23 + 22 * m ∨ 23 + 22 * m + i ≤ i by omega), nI_1, e_const, e_lconst, e_iload, e_aload, e_lload, e_istore, e_astore, e_lstore, e_iinc, e_bin, e_un, e_div, e_mm, e_ladd, e_lcmp, e_dupi, e_dupr, e_dup2, e_popi, e_goto, e_if, e_icmp, e_sw, e_ret, e_zret0, e_zret1, e_zretb, bI_0, bI_1, bI_t, bI_f, i32_10, i32_01, e_lret, e_vret, e_getf, e_putf, e_iald, e_bald, e_aald, e_alen, e_iast, e_bast, e_aast, e_acopy, e_callS, e_callV, e_callI, e_obj, zg0, zg1, zg2, zg3, zg4, zg5, zg6, zg7, zg8, zg9, zg10, zg11, zg12, zg13, zg14, zg15, zg16, zg17, zg18, zg19, zg20, zg21, zg22, zg23, zt0, zt1, zt2, zt3, zt4, zt5, zt6, zt7, zt8, zt9, zt10, zt11, zt12, zt13, zt14, zt15, zt16, zt17, zt18, zt19, zt20, zt21, zt22, zt23, zsi, zsr, zsl, zsu, zs1, zs2, zs3, zs4, zs5, zs6, zs7, zs8, zs9, zs10, zs11, zs12, zs13, zp0, zp1, zp2, zp3, zp4, zp5, zp6, zm0, zm1, zm2, zm3, zm4, zty0, zty2, zty3, zty10, zty11, zkin_self, ztab_self, zup_app, bx_uu, Option.map_some, decide_eq_true_eq, if_true, if_false, ite_true, ite_false, true_and, and_true, Option.toList_some, Option.toList_none, List.cons_append, List.nil_append, reduceIte, List.length_cons, List.length_nil, Nat.reduceAdd, Nat.reduceLT, Nat.reduceEqDiff, Nat.reduceLeDiff, and_self, not_true_eq_false, not_false_eq_true, Int32.reduceSub, Int32.reduceAdd, Int32.reduceToNatClampNeg, Int32.reduceLE, Int32.reduceLT]
    have e1 := cp_step x (S := 0) (D := 23 + 22 * m) (i := i) (Or.inr (by omega))
    rw [Nat.zero_add] at e1
    rw [e1]
    exact ih
theorem fKnow_lt {kn : Nat} (v : Nat → Int32) (h : ¬ kn = 10) : upd (va_cpy v v 0 (23 + 22 * kn) 22) 22 (nI (kn + 1)) = fKnow v kn := by
  funext k
  unfold upd fKnow
  rw [if_neg h, if_neg h]
  by_cases c : k = 22
  · rw [if_pos c, if_pos c]
  · rw [if_neg c, if_neg c]
    unfold va_cpy fPut
    by_cases c2 : 23 + 22 * kn ≤ k ∧ k < 45 + 22 * kn
    · rw [if_pos (by omega), if_pos c2, Nat.zero_add]
    · rw [if_neg (by omega), if_neg c2]
theorem fKnow_10 (v : Nat → Int32) : upd (va_cpy (upd (fLose v) 22 (nI 9)) (upd (fLose v) 22 (nI 9)) 0 (23 + 22 * 9) 22) 22 (nI (9 + 1)) = fKnow v 10 := by
  funext k
  unfold fKnow
  rw [if_pos rfl, if_pos rfl]
  unfold upd
  by_cases c : k = 22
  · rw [if_pos c, if_pos c]
  · rw [if_neg c, if_neg c]
    unfold va_cpy fPut
    by_cases c2 : 23 + 22 * 9 ≤ k ∧ k < 45 + 22 * 9
    · rw [if_pos (by omega), if_pos c2, Nat.zero_add]
      exact if_neg (by omega)
    · rw [if_neg (by omega), if_neg c2]
      exact if_neg c
theorem sM_know {kn : Nat} (hO : mO tr ty hn M) (hN : mN nw M) (hk : nw 22 = nI kn) (hk10 : kn ≤ 10) : zRuns d mM_know [.ref 168] M N S (none, va_up M 177 (.inl (0, 729, .inl (fKnow nw kn))), N, S) := by
  have hO0 := hO
  obtain ⟨lt, a, b, c0, e, u, hO⟩ := hO
  unfold mN at hN
  have z22 : zix 22 729 = some 22 := by decide
  refine zenter (n := 1) kM_know rfl rfl ?_
  refine tM_know_0 _ _ _ ?_
  by_cases c : kn = 10
  · subst c
    simp only [bM_know_0, hO, hN, z22, hk, show nI 10 = 10 by rfl, List.replicate, e_const, e_lconst, e_iload, e_aload, e_lload, e_istore, e_astore, e_lstore, e_iinc, e_bin, e_un, e_div, e_mm, e_ladd, e_lcmp, e_dupi, e_dupr, e_dup2, e_popi, e_goto, e_if, e_icmp, e_sw, e_ret, e_zret0, e_zret1, e_zretb, bI_0, bI_1, bI_t, bI_f, i32_10, i32_01, e_lret, e_vret, e_getf, e_putf, e_iald, e_bald, e_aald, e_alen, e_iast, e_bast, e_aast, e_acopy, e_callS, e_callV, e_callI, e_obj, zg0, zg1, zg2, zg3, zg4, zg5, zg6, zg7, zg8, zg9, zg10, zg11, zg12, zg13, zg14, zg15, zg16, zg17, zg18, zg19, zg20, zg21, zg22, zg23, zt0, zt1, zt2, zt3, zt4, zt5, zt6, zt7, zt8, zt9, zt10, zt11, zt12, zt13, zt14, zt15, zt16, zt17, zt18, zt19, zt20, zt21, zt22, zt23, zsi, zsr, zsl, zsu, zs1, zs2, zs3, zs4, zs5, zs6, zs7, zs8, zs9, zs10, zs11, zs12, zs13, zp0, zp1, zp2, zp3, zp4, zp5, zp6, zm0, zm1, zm2, zm3, zm4, zty0, zty2, zty3, zty10, zty11, zkin_self, ztab_self, zup_app, bx_uu, Option.map_some, decide_eq_true_eq, if_true, if_false, ite_true, ite_false, true_and, and_true, Option.toList_some, Option.toList_none, List.cons_append, List.nil_append, reduceIte, List.length_cons, List.length_nil, Nat.reduceAdd, Nat.reduceLT, Nat.reduceEqDiff, Nat.reduceLeDiff, and_self, not_true_eq_false, not_false_eq_true, Int32.reduceSub, Int32.reduceAdd, Int32.reduceToNatClampNeg, Int32.reduceLE, Int32.reduceLT]
    have key := dn_ind (n := 198) (P := fun i => zGo d mM_know 14 ([.ref 168, .int (nI i)], [], va_up M 177 (.inl (0, 729, .inl (va_cpy nw nw 45 23 i))), N, S) (none, va_up M 177 (.inl (0, 729, .inl (fKnow nw 10))), N, S)) ?_ ?_ 0 (Nat.zero_le _)
    · rw [cp_0, upM_eq M 177 _ hN] at key
      exact key
    · refine tM_know_14 _ _ _ ?_
      simp only [bM_know_14, show nI 198 = 198 by rfl, e_const, e_lconst, e_iload, e_aload, e_lload, e_istore, e_astore, e_lstore, e_iinc, e_bin, e_un, e_div, e_mm, e_ladd, e_lcmp, e_dupi, e_dupr, e_dup2, e_popi, e_goto, e_if, e_icmp, e_sw, e_ret, e_zret0, e_zret1, e_zretb, bI_0, bI_1, bI_t, bI_f, i32_10, i32_01, e_lret, e_vret, e_getf, e_putf, e_iald, e_bald, e_aald, e_alen, e_iast, e_bast, e_aast, e_acopy, e_callS, e_callV, e_callI, e_obj, zg0, zg1, zg2, zg3, zg4, zg5, zg6, zg7, zg8, zg9, zg10, zg11, zg12, zg13, zg14, zg15, zg16, zg17, zg18, zg19, zg20, zg21, zg22, zg23, zt0, zt1, zt2, zt3, zt4, zt5, zt6, zt7, zt8, zt9, zt10, zt11, zt12, zt13, zt14, zt15, zt16, zt17, zt18, zt19, zt20, zt21, zt22, zt23, zsi, zsr, zsl, zsu, zs1, zs2, zs3, zs4, zs5, zs6, zs7, zs8, zs9, zs10, zs11, zs12, zs13, zp0, zp1, zp2, zp3, zp4, zp5, zp6, zm0, zm1, zm2, zm3, zm4, zty0, zty2, zty3, zty10, zty11, zkin_self, ztab_self, zup_app, bx_uu, Option.map_some, decide_eq_true_eq, if_true, if_false, ite_true, ite_false, true_and, and_true, Option.toList_some, Option.toList_none, List.cons_append, List.nil_append, reduceIte, List.length_cons, List.length_nil, Nat.reduceAdd, Nat.reduceLT, Nat.reduceEqDiff, Nat.reduceLeDiff, and_self, not_true_eq_false, not_false_eq_true, Int32.reduceSub, Int32.reduceAdd, Int32.reduceToNatClampNeg, Int32.reduceLE, Int32.reduceLT]
      refine tM_know_45 _ _ _ ?_
      rw [fLose_cpy]
      have l22 : fLose nw 22 = nI 10 := by unfold fLose; rw [if_neg (by omega)]; exact hk
      simp only [bM_know_45, hO, z22, l22, show nI 10 - 1 = nI 9 by decide, e_const, e_lconst, e_iload, e_aload, e_lload, e_istore, e_astore, e_lstore, e_iinc, e_bin, e_un, e_div, e_mm, e_ladd, e_lcmp, e_dupi, e_dupr, e_dup2, e_popi, e_goto, e_if, e_icmp, e_sw, e_ret, e_zret0, e_zret1, e_zretb, bI_0, bI_1, bI_t, bI_f, i32_10, i32_01, e_lret, e_vret, e_getf, e_putf, e_iald, e_bald, e_aald, e_alen, e_iast, e_bast, e_aast, e_acopy, e_callS, e_callV, e_callI, e_obj, zg0, zg1, zg2, zg3, zg4, zg5, zg6, zg7, zg8, zg9, zg10, zg11, zg12, zg13, zg14, zg15, zg16, zg17, zg18, zg19, zg20, zg21, zg22, zg23, zt0, zt1, zt2, zt3, zt4, zt5, zt6, zt7, zt8, zt9, zt10, zt11, zt12, zt13, zt14, zt15, zt16, zt17, zt18, zt19, zt20, zt21, zt22, zt23, zsi, zsr, zsl, zsu, zs1, zs2, zs3, zs4, zs5, zs6, zs7, zs8, zs9, zs10, zs11, zs12, zs13, zp0, zp1, zp2, zp3, zp4, zp5, zp6, zm0, zm1, zm2, zm3, zm4, zty0, zty2, zty3, zty10, zty11, zkin_self, ztab_self, zup_app, bx_uu, Option.map_some, decide_eq_true_eq, if_true, if_false, ite_true, ite_false, true_and, and_true, Option.toList_some, Option.toList_none, List.cons_append, List.nil_append, reduceIte, List.length_cons, List.length_nil, Nat.reduceAdd, Nat.reduceLT, Nat.reduceEqDiff, Nat.reduceLeDiff, and_self, not_true_eq_false, not_false_eq_true, Int32.reduceSub, Int32.reduceAdd, Int32.reduceToNatClampNeg, Int32.reduceLE, Int32.reduceLT]
      rw [← fKnow_10]
      exact sM_know2 hO0 pk_us (by omega) rfl
    · intro i hi ih
      refine tM_know_14 _ _ _ ?_
      have z1 : zix (23 + nI i) 729 = some (23 + i) := zix_eq (by rw [show (23 : Int32) = nI 23 from rfl, nI_add]) (by omega) (by decide)
      have z2 : zix (45 + nI i) 729 = some (45 + i) := zix_eq (by rw [show (45 : Int32) = nI 45 from rfl, nI_add]) (by omega) (by decide)
      simp only [bM_know_14, show (198 ≤ nI i) = False from eq_false (nI_ge hi (by decide)), hO, z1, z2, cp_at nw (show 45 + i < 23 ∨ 23 + i ≤ 45 + i by omega), cp_step nw (S := 45) (D := 23) (i := i) (Or.inl (by omega)), nI_1, e_const, e_lconst, e_iload, e_aload, e_lload, e_istore, e_astore, e_lstore, e_iinc, e_bin, e_un, e_div, e_mm, e_ladd, e_lcmp, e_dupi, e_dupr, e_dup2, e_popi, e_goto, e_if, e_icmp, e_sw, e_ret, e_zret0, e_zret1, e_zretb, bI_0, bI_1, bI_t, bI_f, i32_10, i32_01, e_lret, e_vret, e_getf, e_putf, e_iald, e_bald, e_aald, e_alen, e_iast, e_bast, e_aast, e_acopy, e_callS, e_callV, e_callI, e_obj, zg0, zg1, zg2, zg3, zg4, zg5, zg6, zg7, zg8, zg9, zg10, zg11, zg12, zg13, zg14, zg15, zg16, zg17, zg18, zg19, zg20, zg21, zg22, zg23, zt0, zt1, zt2, zt3, zt4, zt5, zt6, zt7, zt8, zt9, zt10, zt11, zt12, zt13, zt14, zt15, zt16, zt17, zt18, zt19, zt20, zt21, zt22, zt23, zsi, zsr, zsl, zsu, zs1, zs2, zs3, zs4, zs5, zs6, zs7, zs8, zs9, zs10, zs11, zs12, zs13, zp0, zp1, zp2, zp3, zp4, zp5, zp6, zm0, zm1, zm2, zm3, zm4, zty0, zty2, zty3, zty10, zty11, zkin_self, ztab_self, zup_app, bx_uu, Option.map_some, decide_eq_true_eq, if_true, if_false, ite_true, ite_false, true_and, and_true, Option.toList_some, Option.toList_none, List.cons_append, List.nil_append, reduceIte, List.length_cons, List.length_nil, Nat.reduceAdd, Nat.reduceLT, Nat.reduceEqDiff, Nat.reduceLeDiff, and_self, not_true_eq_false, not_false_eq_true, Int32.reduceSub, Int32.reduceAdd, Int32.reduceToNatClampNeg, Int32.reduceLE, Int32.reduceLT]
      exact ih
  · simp only [bM_know_0, hO, hN, z22, hk, nI_eqN (n := kn) (x := 10) 10 rfl (by omega), c, List.replicate, e_const, e_lconst, e_iload, e_aload, e_lload, e_istore, e_astore, e_lstore, e_iinc, e_bin, e_un, e_div, e_mm, e_ladd, e_lcmp, e_dupi, e_dupr, e_dup2, e_popi, e_goto, e_if, e_icmp, e_sw, e_ret, e_zret0, e_zret1, e_zretb, bI_0, bI_1, bI_t, bI_f, i32_10, i32_01, e_lret, e_vret, e_getf, e_putf, e_iald, e_bald, e_aald, e_alen, e_iast, e_bast, e_aast, e_acopy, e_callS, e_callV, e_callI, e_obj, zg0, zg1, zg2, zg3, zg4, zg5, zg6, zg7, zg8, zg9, zg10, zg11, zg12, zg13, zg14, zg15, zg16, zg17, zg18, zg19, zg20, zg21, zg22, zg23, zt0, zt1, zt2, zt3, zt4, zt5, zt6, zt7, zt8, zt9, zt10, zt11, zt12, zt13, zt14, zt15, zt16, zt17, zt18, zt19, zt20, zt21, zt22, zt23, zsi, zsr, zsl, zsu, zs1, zs2, zs3, zs4, zs5, zs6, zs7, zs8, zs9, zs10, zs11, zs12, zs13, zp0, zp1, zp2, zp3, zp4, zp5, zp6, zm0, zm1, zm2, zm3, zm4, zty0, zty2, zty3, zty10, zty11, zkin_self, ztab_self, zup_app, bx_uu, Option.map_some, decide_eq_true_eq, if_true, if_false, ite_true, ite_false, true_and, and_true, Option.toList_some, Option.toList_none, List.cons_append, List.nil_append, reduceIte, List.length_cons, List.length_nil, Nat.reduceAdd, Nat.reduceLT, Nat.reduceEqDiff, Nat.reduceLeDiff, and_self, not_true_eq_false, not_false_eq_true, Int32.reduceSub, Int32.reduceAdd, Int32.reduceToNatClampNeg, Int32.reduceLE, Int32.reduceLT]
    have h2 := sM_know2 (d := d) (N := N) (S := S) (w := .retAddr 0) hO0 hk (by omega) rfl
    rw [fKnow_lt nw c, upM_eq M 177 _ hN] at h2
    exact h2
end LC
