/-- a bit's minutes, summed -/
def fMins (hall : Nat → Int32) (way : Int32) : Nat → Int32
  | 0 => 0
  | n + 1 => if (way >>> (nI n &&& 31)) &&& 1 = 1 then fMins hall way n + hall n else fMins hall way n
theorem dn_ind {P : Nat → Prop} {n : Nat} (h0 : P n) (hs : ∀ i, i < n → P (i + 1) → P i) : ∀ i, i ≤ n → P i := by
  intro i hi
  obtain ⟨k, rfl⟩ := Nat.exists_eq_add_of_le hi
  induction k generalizing i with
  | zero => exact h0
  | succ k ih =>
    refine hs i (by omega) (ih (i + 1) ?_ ?_ (by omega))
    · rw [show i + 1 + k = i + (k + 1) by omega]; exact h0
    · rw [show i + 1 + k = i + (k + 1) by omega]; exact hs
section T1
variable {M : zHp} {N S d : Nat} {hall : Nat → Int32} {hs : Nat} {ps tx wm : Int32} {rs : List Value}
theorem sP_minutesOf {cs : List Value} (h8 : M 154 = .inr (8, .ref 9 :: cs)) (h9 : M 9 = .inr (10, [.ref 10, .ref 11, .ref 12, .ref 13, .int (nI hs), .int ps, .int tx, .int wm])) (h10 : M 10 = .inl (0, 9, .inl hall)) (hh : hs ≤ 9) (way : Int32) :
    zRuns d mP_minutesOf [.ref 154, .int way] M N S (some (.int (fMins hall way hs)), M, N, S) := by
  refine zenter (n := 2) kP_minutesOf rfl rfl ?_
  refine tP_minutesOf_0 _ _ _ ?_
  simp only [bP_minutesOf_0, List.replicate, e_const, e_lconst, e_iload, e_aload, e_lload, e_istore, e_astore, e_iinc, e_bin, e_un, e_div, e_mm, e_ladd, e_lcmp, e_dupi, e_dupr, e_dup2, e_popi, e_goto, e_if, e_icmp, e_sw, e_ret, e_zret0, e_zret1, e_lret, e_vret, e_getf, e_putf, e_iald, e_bald, e_aald, e_alen, e_iast, e_bast, e_aast, e_acopy, e_callS, e_callV, e_callI, e_obj, zg0, zg1, zg2, zg3, zg4, zg5, zg6, zg7, zg8, zg9, zg10, zg11, zg12, zg13, zg14, zg15, zg16, zg17, zg18, zg19, zg20, zg21, zg22, zg23, zt0, zt1, zt2, zt3, zt4, zt5, zt6, zt7, zt8, zt9, zt10, zt11, zt12, zt13, zt14, zt15, zt16, zt17, zt18, zt19, zt20, zt21, zt22, zt23, zsi, zsr, zsl, zsu, zs1, zs2, zs3, zs4, zs5, zs6, zs7, zs8, zs9, zs10, zs11, zs12, zs13, zp0, zp1, zp2, zp3, zp4, zp5, zp6, zm0, zm1, zm2, zm3, zm4, zty0, zty2, zty3, zty10, zty11, zkin_self, ztab_self, zup_same, Option.map_some, decide_eq_true_eq, if_true, if_false, ite_true, ite_false, true_and, and_true, Option.toList_some, Option.toList_none, List.cons_append, List.nil_append, reduceIte, List.length_cons, List.length_nil, Nat.reduceAdd, Nat.reduceLT, Nat.reduceEqDiff, not_true_eq_false, not_false_eq_true]
  refine dn_ind (n := hs) (P := fun i => zGo d mP_minutesOf 4 ([.ref 154, .int way, .int (fMins hall way i), .int (nI i)], [], M, N, S) (some (.int (fMins hall way hs)), M, N, S)) ?_ ?_ 0 (Nat.zero_le _)
  · refine tP_minutesOf_4 _ _ _ ?_
    simp only [bP_minutesOf_4, h8, h9, e_const, e_lconst, e_iload, e_aload, e_lload, e_istore, e_astore, e_iinc, e_bin, e_un, e_div, e_mm, e_ladd, e_lcmp, e_dupi, e_dupr, e_dup2, e_popi, e_goto, e_if, e_icmp, e_sw, e_ret, e_zret0, e_zret1, e_lret, e_vret, e_getf, e_putf, e_iald, e_bald, e_aald, e_alen, e_iast, e_bast, e_aast, e_acopy, e_callS, e_callV, e_callI, e_obj, zg0, zg1, zg2, zg3, zg4, zg5, zg6, zg7, zg8, zg9, zg10, zg11, zg12, zg13, zg14, zg15, zg16, zg17, zg18, zg19, zg20, zg21, zg22, zg23, zt0, zt1, zt2, zt3, zt4, zt5, zt6, zt7, zt8, zt9, zt10, zt11, zt12, zt13, zt14, zt15, zt16, zt17, zt18, zt19, zt20, zt21, zt22, zt23, zsi, zsr, zsl, zsu, zs1, zs2, zs3, zs4, zs5, zs6, zs7, zs8, zs9, zs10, zs11, zs12, zs13, zp0, zp1, zp2, zp3, zp4, zp5, zp6, zm0, zm1, zm2, zm3, zm4, zty0, zty2, zty3, zty10, zty11, zkin_self, ztab_self, zup_same, Option.map_some, decide_eq_true_eq, if_true, if_false, ite_true, ite_false, true_and, and_true, Option.toList_some, Option.toList_none, List.cons_append, List.nil_append, reduceIte, List.length_cons, List.length_nil, Nat.reduceAdd, Nat.reduceLT, Nat.reduceEqDiff, not_true_eq_false, not_false_eq_true]
    rw [if_pos (nI_le (Nat.le_refl _) (by omega))]
    refine tP_minutesOf_42 _ _ _ ?_
    simp only [bP_minutesOf_42, e_const, e_lconst, e_iload, e_aload, e_lload, e_istore, e_astore, e_iinc, e_bin, e_un, e_div, e_mm, e_ladd, e_lcmp, e_dupi, e_dupr, e_dup2, e_popi, e_goto, e_if, e_icmp, e_sw, e_ret, e_zret0, e_zret1, e_lret, e_vret, e_getf, e_putf, e_iald, e_bald, e_aald, e_alen, e_iast, e_bast, e_aast, e_acopy, e_callS, e_callV, e_callI, e_obj, zg0, zg1, zg2, zg3, zg4, zg5, zg6, zg7, zg8, zg9, zg10, zg11, zg12, zg13, zg14, zg15, zg16, zg17, zg18, zg19, zg20, zg21, zg22, zg23, zt0, zt1, zt2, zt3, zt4, zt5, zt6, zt7, zt8, zt9, zt10, zt11, zt12, zt13, zt14, zt15, zt16, zt17, zt18, zt19, zt20, zt21, zt22, zt23, zsi, zsr, zsl, zsu, zs1, zs2, zs3, zs4, zs5, zs6, zs7, zs8, zs9, zs10, zs11, zs12, zs13, zp0, zp1, zp2, zp3, zp4, zp5, zp6, zm0, zm1, zm2, zm3, zm4, zty0, zty2, zty3, zty10, zty11, zkin_self, ztab_self, zup_same, Option.map_some, decide_eq_true_eq, if_true, if_false, ite_true, ite_false, true_and, and_true, Option.toList_some, Option.toList_none, List.cons_append, List.nil_append, reduceIte, List.length_cons, List.length_nil, Nat.reduceAdd, Nat.reduceLT, Nat.reduceEqDiff, not_true_eq_false, not_false_eq_true]
  · intro i hi ih
    refine tP_minutesOf_4 _ _ _ ?_
    simp only [bP_minutesOf_4, h8, h9, h10, zix_nI (show i < 9 by omega) (by decide), e_const, e_lconst, e_iload, e_aload, e_lload, e_istore, e_astore, e_iinc, e_bin, e_un, e_div, e_mm, e_ladd, e_lcmp, e_dupi, e_dupr, e_dup2, e_popi, e_goto, e_if, e_icmp, e_sw, e_ret, e_zret0, e_zret1, e_lret, e_vret, e_getf, e_putf, e_iald, e_bald, e_aald, e_alen, e_iast, e_bast, e_aast, e_acopy, e_callS, e_callV, e_callI, e_obj, zg0, zg1, zg2, zg3, zg4, zg5, zg6, zg7, zg8, zg9, zg10, zg11, zg12, zg13, zg14, zg15, zg16, zg17, zg18, zg19, zg20, zg21, zg22, zg23, zt0, zt1, zt2, zt3, zt4, zt5, zt6, zt7, zt8, zt9, zt10, zt11, zt12, zt13, zt14, zt15, zt16, zt17, zt18, zt19, zt20, zt21, zt22, zt23, zsi, zsr, zsl, zsu, zs1, zs2, zs3, zs4, zs5, zs6, zs7, zs8, zs9, zs10, zs11, zs12, zs13, zp0, zp1, zp2, zp3, zp4, zp5, zp6, zm0, zm1, zm2, zm3, zm4, zty0, zty2, zty3, zty10, zty11, zkin_self, ztab_self, zup_same, Option.map_some, decide_eq_true_eq, if_true, if_false, ite_true, ite_false, true_and, and_true, Option.toList_some, Option.toList_none, List.cons_append, List.nil_append, reduceIte, List.length_cons, List.length_nil, Nat.reduceAdd, Nat.reduceLT, Nat.reduceEqDiff, not_true_eq_false, not_false_eq_true]
    rw [if_neg (nI_ge hi (by omega))]
    have e1 : ∀ x : Int32, zGo d mP_minutesOf 4 ([.ref 154, .int way, .int x, .int (nI (i + 1))], [], M, N, S) (some (.int (fMins hall way hs)), M, N, S) → zGo d mP_minutesOf 36 ([.ref 154, .int way, .int x, .int (nI i)], [], M, N, S) (some (.int (fMins hall way hs)), M, N, S) := by
      intro x hx
      refine tP_minutesOf_36 _ _ _ ?_
      simp only [bP_minutesOf_36, nI_1, e_const, e_lconst, e_iload, e_aload, e_lload, e_istore, e_astore, e_iinc, e_bin, e_un, e_div, e_mm, e_ladd, e_lcmp, e_dupi, e_dupr, e_dup2, e_popi, e_goto, e_if, e_icmp, e_sw, e_ret, e_zret0, e_zret1, e_lret, e_vret, e_getf, e_putf, e_iald, e_bald, e_aald, e_alen, e_iast, e_bast, e_aast, e_acopy, e_callS, e_callV, e_callI, e_obj, zg0, zg1, zg2, zg3, zg4, zg5, zg6, zg7, zg8, zg9, zg10, zg11, zg12, zg13, zg14, zg15, zg16, zg17, zg18, zg19, zg20, zg21, zg22, zg23, zt0, zt1, zt2, zt3, zt4, zt5, zt6, zt7, zt8, zt9, zt10, zt11, zt12, zt13, zt14, zt15, zt16, zt17, zt18, zt19, zt20, zt21, zt22, zt23, zsi, zsr, zsl, zsu, zs1, zs2, zs3, zs4, zs5, zs6, zs7, zs8, zs9, zs10, zs11, zs12, zs13, zp0, zp1, zp2, zp3, zp4, zp5, zp6, zm0, zm1, zm2, zm3, zm4, zty0, zty2, zty3, zty10, zty11, zkin_self, ztab_self, zup_same, Option.map_some, decide_eq_true_eq, if_true, if_false, ite_true, ite_false, true_and, and_true, Option.toList_some, Option.toList_none, List.cons_append, List.nil_append, reduceIte, List.length_cons, List.length_nil, Nat.reduceAdd, Nat.reduceLT, Nat.reduceEqDiff, not_true_eq_false, not_false_eq_true]
      exact hx
    simp only [fMins] at ih
    by_cases c1 : (way >>> (nI i &&& 31)) &&& 1 = 1
    · rw [if_neg (by simpa using c1)]
      rw [if_pos c1] at ih
      exact e1 _ ih
    · rw [if_pos c1]
      rw [if_neg c1] at ih
      exact e1 _ ih
end T1
