/-- NOW as told: places and homes, patience -/
def fBeg (h t : Nat → Int32) : Nat → Int32 := fun k => if k < 6 then h k else if k < 12 then h (k - 6) else if k < 18 then t (k - 12) else if k < 21 then 0 else -9
section LA
variable {M : zHp} {N S d : Nat} {ty nh np hn : Nat} {tx hall er tp hh hm nw : Nat → Int32} {tax warm : Int32} {tr : Int64} {k0 k1 : Bool}
theorem sN_become {a b : Nat} {u v : Nat → Int32} (ha : gN np a u M) (hb : gN np b v M) (h1 : 1 ≤ a) (h2 : 1 ≤ b) (hab : a + 4 ≤ b ∨ b + 4 ≤ a) : ∃ M', zRuns d mN_become [.ref a, .ref b] M N S (none, M', N, S) ∧ (∀ k, ¬ (a ≤ k ∧ k ≤ a + 3) → M' k = M k) ∧ gN np a v M' := by
  obtain ⟨p0, ⟨f1, p1, -⟩, ⟨f2, p2, -⟩, f3, p3, -⟩ := ha
  obtain ⟨q0, ⟨g1, q1, w1⟩, ⟨g2, q2, w2⟩, g3, q3, w3⟩ := hb
  refine ⟨va_up (va_up (va_up (va_up M (a + 1) (.inl (0, 6, .inl (va_cpy g1 f1 0 0 6)))) (a + 2) (.inl (0, 6, .inl (va_cpy g2 f2 0 0 6)))) (a + 3) (.inl (0, 6, .inl (va_cpy g3 f3 0 0 6)))) a (.inr (6, [.ref (a + 1), .ref (a + 2), .ref (a + 3), .int (v 18), .int (v 19), .int (v 20), .int (v 21)])), ?_, fun k hk => ?_, ?_⟩
  rotate_left
  · simp only [zup_app]
    rw [if_neg (by omega), if_neg (by omega), if_neg (by omega), if_neg (by omega)]
  · refine ⟨?_, ⟨va_cpy g1 f1 0 0 6, ?_, fun j hj => by rw [sb_cpy0 (show j < 6 by omega)]; exact w1 j hj⟩, ⟨va_cpy g2 f2 0 0 6, ?_, fun j hj => by rw [sb_cpy0 (show j < 6 by omega)]; exact w2 j hj⟩, va_cpy g3 f3 0 0 6, ?_, fun j hj => by rw [sb_cpy0 (show j < 6 by omega)]; exact w3 j hj⟩
    · simp only [zup_app, if_pos]
    · simp only [zup_app]
      rw [if_neg (by omega), if_neg (by omega), if_neg (by omega), if_pos trivial]
    · simp only [zup_app]
      rw [if_neg (by omega), if_neg (by omega), if_pos trivial]
    · simp only [zup_app]
      rw [if_neg (by omega), if_pos trivial]
  have x0 : (a = b) = False := eq_false (by omega)
  have x1 : (b = a) = False := eq_false (by omega)
  have x2 : (a = b + 1) = False := eq_false (by omega)
  have x3 : (b + 1 = a) = False := eq_false (by omega)
  have x4 : (a = a + 1) = False := eq_false (by omega)
  have x5 : (a = b + 2) = False := eq_false (by omega)
  have x6 : (b + 2 = a) = False := eq_false (by omega)
  have x7 : (a = a + 2) = False := eq_false (by omega)
  have x8 : (a = b + 3) = False := eq_false (by omega)
  have x9 : (b + 3 = a) = False := eq_false (by omega)
  have x10 : (a = a + 3) = False := eq_false (by omega)
  have x11 : (a + 1 = b) = False := eq_false (by omega)
  have x12 : (b = a + 1) = False := eq_false (by omega)
  have x13 : (a + 1 = a) = False := eq_false (by omega)
  have x14 : (a + 1 = b + 1) = False := eq_false (by omega)
  have x15 : (b + 1 = a + 1) = False := eq_false (by omega)
  have x16 : (a + 1 = b + 2) = False := eq_false (by omega)
  have x17 : (b + 2 = a + 1) = False := eq_false (by omega)
  have x18 : (a + 1 = a + 2) = False := eq_false (by omega)
  have x19 : (a + 1 = b + 3) = False := eq_false (by omega)
  have x20 : (b + 3 = a + 1) = False := eq_false (by omega)
  have x21 : (a + 1 = a + 3) = False := eq_false (by omega)
  have x22 : (a + 2 = b) = False := eq_false (by omega)
  have x23 : (b = a + 2) = False := eq_false (by omega)
  have x24 : (a + 2 = a) = False := eq_false (by omega)
  have x25 : (a + 2 = b + 1) = False := eq_false (by omega)
  have x26 : (b + 1 = a + 2) = False := eq_false (by omega)
  have x27 : (a + 2 = a + 1) = False := eq_false (by omega)
  have x28 : (a + 2 = b + 2) = False := eq_false (by omega)
  have x29 : (b + 2 = a + 2) = False := eq_false (by omega)
  have x30 : (a + 2 = b + 3) = False := eq_false (by omega)
  have x31 : (b + 3 = a + 2) = False := eq_false (by omega)
  have x32 : (a + 2 = a + 3) = False := eq_false (by omega)
  have x33 : (a + 3 = b) = False := eq_false (by omega)
  have x34 : (b = a + 3) = False := eq_false (by omega)
  have x35 : (a + 3 = a) = False := eq_false (by omega)
  have x36 : (a + 3 = b + 1) = False := eq_false (by omega)
  have x37 : (b + 1 = a + 3) = False := eq_false (by omega)
  have x38 : (a + 3 = a + 1) = False := eq_false (by omega)
  have x39 : (a + 3 = b + 2) = False := eq_false (by omega)
  have x40 : (b + 2 = a + 3) = False := eq_false (by omega)
  have x41 : (a + 3 = a + 2) = False := eq_false (by omega)
  have x42 : (a + 3 = b + 3) = False := eq_false (by omega)
  have x43 : (b + 3 = a + 3) = False := eq_false (by omega)
  have x44 : (a = 0) = False := eq_false (by omega)
  refine zenter (n := 0) kN_become rfl rfl ?_
  repeat' (first | (refine zstep uN_become [] (by decide) rfl ?_; simp only [p0, p1, p2, p3, q0, q1, q2, q3, x0, x1, x2, x3, x4, x5, x6, x7, x8, x9, x10, x11, x12, x13, x14, x15, x16, x17, x18, x19, x20, x21, x22, x23, x24, x25, x26, x27, x28, x29, x30, x31, x32, x33, x34, x35, x36, x37, x38, x39, x40, x41, x42, x43, x44, bN_become_0, e_const, e_lconst, e_iload, e_aload, e_lload, e_istore, e_astore, e_lstore, e_iinc, e_bin, e_un, e_div, e_mm, e_ladd, e_lcmp, e_dupi, e_dupr, e_dup2, e_popi, e_goto, e_if, e_icmp, e_sw, e_ret, e_zret0, e_zret1, e_zretb, bI_0, bI_1, bI_t, bI_f, i32_10, i32_01, e_lret, e_vret, e_getf, e_putf, e_iald, e_bald, e_aald, e_alen, e_iast, e_bast, e_aast, e_acopy, e_callS, e_callV, e_callI, e_obj, zg0, zg1, zg2, zg3, zg4, zg5, zg6, zg7, zg8, zg9, zg10, zg11, zg12, zg13, zg14, zg15, zg16, zg17, zg18, zg19, zg20, zg21, zg22, zg23, zt0, zt1, zt2, zt3, zt4, zt5, zt6, zt7, zt8, zt9, zt10, zt11, zt12, zt13, zt14, zt15, zt16, zt17, zt18, zt19, zt20, zt21, zt22, zt23, zsi, zsr, zsl, zsu, zs1, zs2, zs3, zs4, zs5, zs6, zs7, zs8, zs9, zs10, zs11, zs12, zs13, zp0, zp1, zp2, zp3, zp4, zp5, zp6, zm0, zm1, zm2, zm3, zm4, zty0, zty2, zty3, zty10, zty11, zkin_self, ztab_self, zup_app, bx_uu, Option.map_some, decide_eq_true_eq, if_true, if_false, ite_true, ite_false, true_and, and_true, Option.toList_some, Option.toList_none, List.cons_append, List.nil_append, reduceIte, List.length_cons, List.length_nil, Nat.reduceAdd, Nat.reduceLT, Nat.reduceEqDiff, Nat.reduceLeDiff, and_self, not_true_eq_false, not_false_eq_true, Int32.reduceSub, Int32.reduceAdd, Int32.reduceToNatClampNeg, Int32.reduceLE, Int32.reduceLT]) | (exact True.intro) | (refine ite_in ?_ ?_ <;> intro _) | (refine zsw_in ?_ ?_ <;> (first | (intro e0; subst e0) | intro _)) | (refine zsw_out ?_))
theorem sN_begin {u : Nat → Int32} {nh np nq : Nat} {hm0 : Nat → Int32} (ha : gN nq 15 u M) (hT : gT nh np hall er tp tax warm M) (h11 : M 11 = .inl (0, 6, .inl hm0)) : ∃ M', zRuns d mN_begin [.ref 15, .ref 9] M N S (none, M', N, S) ∧ (∀ k, ¬ (15 ≤ k ∧ k ≤ 18) → M' k = M k) ∧ gN np 15 (fBeg hm0 tp) M' := by
  obtain ⟨p0, ⟨f1, p1, -⟩, ⟨f2, p2, -⟩, f3, p3, -⟩ := ha
  obtain ⟨h9, -, -, h12, h13⟩ := hT
  refine ⟨va_up (va_up (va_up (va_up M 16 (.inl (0, 6, .inl (va_cpy hm0 f1 0 0 6)))) 17 (.inl (0, 6, .inl (va_cpy hm0 f2 0 0 6)))) 18 (.inl (0, 6, .inl (va_cpy tp f3 0 0 6)))) 15 (.inr (6, [.ref 16, .ref 17, .ref 18, .int 0, .int 0, .int 0, .int (-9)])), ?_, fun k hk => ?_, ?_⟩
  rotate_left
  · simp only [zup_app]
    rw [if_neg (by omega), if_neg (by omega), if_neg (by omega), if_neg (by omega)]
  · refine ⟨rfl, ⟨va_cpy hm0 f1 0 0 6, rfl, fun j hj => by rw [sb_cpy0 (show j < 6 by omega)]; unfold fBeg; rw [if_pos (by omega)]⟩, ⟨va_cpy hm0 f2 0 0 6, rfl, fun j hj => ?_⟩, va_cpy tp f3 0 0 6, rfl, fun j hj => ?_⟩
    · rw [sb_cpy0 (show j < 6 by omega)]
      unfold fBeg
      rw [if_neg (by omega), if_pos (by omega)]
      congr 1; omega
    · rw [sb_cpy0 (show j < 6 by omega)]
      unfold fBeg
      rw [if_neg (by omega), if_neg (by omega), if_pos (by omega)]
      congr 1; omega
  refine zenter (n := 0) kN_begin rfl rfl ?_
  repeat' (first | (refine zstep uN_begin [] (by decide) rfl ?_; simp only [p0, p1, p2, p3, h9, h11, h13, bN_begin_0, e_const, e_lconst, e_iload, e_aload, e_lload, e_istore, e_astore, e_lstore, e_iinc, e_bin, e_un, e_div, e_mm, e_ladd, e_lcmp, e_dupi, e_dupr, e_dup2, e_popi, e_goto, e_if, e_icmp, e_sw, e_ret, e_zret0, e_zret1, e_zretb, bI_0, bI_1, bI_t, bI_f, i32_10, i32_01, e_lret, e_vret, e_getf, e_putf, e_iald, e_bald, e_aald, e_alen, e_iast, e_bast, e_aast, e_acopy, e_callS, e_callV, e_callI, e_obj, zg0, zg1, zg2, zg3, zg4, zg5, zg6, zg7, zg8, zg9, zg10, zg11, zg12, zg13, zg14, zg15, zg16, zg17, zg18, zg19, zg20, zg21, zg22, zg23, zt0, zt1, zt2, zt3, zt4, zt5, zt6, zt7, zt8, zt9, zt10, zt11, zt12, zt13, zt14, zt15, zt16, zt17, zt18, zt19, zt20, zt21, zt22, zt23, zsi, zsr, zsl, zsu, zs1, zs2, zs3, zs4, zs5, zs6, zs7, zs8, zs9, zs10, zs11, zs12, zs13, zp0, zp1, zp2, zp3, zp4, zp5, zp6, zm0, zm1, zm2, zm3, zm4, zty0, zty2, zty3, zty10, zty11, zkin_self, ztab_self, zup_app, bx_uu, Option.map_some, decide_eq_true_eq, if_true, if_false, ite_true, ite_false, true_and, and_true, Option.toList_some, Option.toList_none, List.cons_append, List.nil_append, reduceIte, List.length_cons, List.length_nil, Nat.reduceAdd, Nat.reduceLT, Nat.reduceEqDiff, Nat.reduceLeDiff, and_self, not_true_eq_false, not_false_eq_true, Int32.reduceSub, Int32.reduceAdd, Int32.reduceToNatClampNeg, Int32.reduceLE, Int32.reduceLT]) | (exact True.intro) | (refine ite_in ?_ ?_ <;> intro _) | (refine zsw_in ?_ ?_ <;> (first | (intro e0; subst e0) | intro _)) | (refine zsw_out ?_))
end LA
