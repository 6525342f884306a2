/-! the model's codes: base 6, person 0 first -/
def dgt (np code j : Nat) : Nat := code / 6 ^ (np - 1 - j) % 6
def v6 (s : Nat → Nat) : Nat → Nat
  | 0 => 0
  | n + 1 => v6 s n * 6 + s n
theorem v6_lt {s : Nat → Nat} : ∀ n : Nat, (∀ j, j < n → s j < 6) → v6 s n < 6 ^ n
  | 0, _ => by
    show 0 < 6 ^ 0
    decide
  | n + 1, h => by
    have h1 := v6_lt n (fun j hj => h j (by omega))
    have h2 := h n (by omega)
    show v6 s n * 6 + s n < 6 ^ (n + 1)
    rw [Nat.pow_succ]
    omega
theorem v6_div {s : Nat → Nat} {n : Nat} (h : ∀ j, j < n → s j < 6) : ∀ k : Nat, k ≤ n → v6 s n / 6 ^ k = v6 s (n - k)
  | 0, _ => by
    rw [Nat.pow_zero, Nat.div_one, Nat.sub_zero]
  | k + 1, hk => by
    rw [Nat.pow_succ, ← Nat.div_div_eq_div_mul, v6_div h k (by omega)]
    obtain ⟨m, hm⟩ : ∃ m, n - k = m + 1 := ⟨n - k - 1, by omega⟩
    rw [hm, show n - (k + 1) = m by omega]
    have := h m (by omega)
    show (v6 s m * 6 + s m) / 6 = v6 s m
    omega
theorem dgt_v6 {s : Nat → Nat} {np j : Nat} (h : ∀ j, j < np → s j < 6) (hj : j < np) : dgt np (v6 s np) j = s j := by
  unfold dgt
  rw [v6_div h _ (by omega)]
  obtain ⟨m, hm⟩ : ∃ m, np - (np - 1 - j) = m + 1 := ⟨j, by omega⟩
  obtain rfl : m = j := by omega
  rw [hm]
  have := h m hj
  show (v6 s m * 6 + s m) % 6 = s m
  omega
theorem us_bit : ∀ U : Fin 64, ∀ k : Fin 6, decide ((nI U.val >>> (nI k.val &&& 31)) &&& 1 = 0) = !(U.val.testBit k.val) := by decide +kernel
theorem us_or : ∀ U : Fin 64, ∀ k : Fin 6, nI U.val ||| ((1 : Int32) <<< (nI k.val &&& 31)) = nI (U.val ||| (1 <<< k.val)) ∧ U.val ||| (1 <<< k.val) < 64 := by decide +kernel
theorem us_tb : ∀ U : Fin 64, ∀ k j : Fin 6, (U.val ||| (1 <<< k.val)).testBit j.val = (U.val.testBit j.val || decide (j.val = k.val)) := by decide +kernel
theorem Arr_perm {H : Nat → Nat} {nh np : Nat} {s : Nat → Nat} (hHn : ∀ j, j < np → H j < nh) (hs : Val np s) : Arr H nh np (fun j => H (s j)) := by
  refine ⟨fun j hj => hHn _ (hs.1 j hj), fun h => ?_⟩
  exact nS_perm (fun j => if H j = h then 1 else 0) np s hs
theorem key_congr {er cs x y : Nat → Nat} {np : Nat} (h : ∀ j, j < np → x j = y j) : keyG er cs np x = keyG er cs np y := by
  unfold keyG cstG
  rw [nS_congr (f := fun q => er q * cs (x q)) (g := fun q => er q * cs (y q)) (fun k hk => by show er k * cs (x k) = er k * cs (y k); rw [h k hk]), vl_congr h]
theorem zsw0 {w : Value} (hw : w = .retAddr 0 ∨ ∃ z : Int32, w = .int z) (l : List Value) (v : Value) : zset (w :: l) 0 v = some (v :: l) := by
  rcases hw with rfl | ⟨z, rfl⟩
  · rfl
  · rfl
section HM
variable {N S d : Nat} {ty nh np hn : Nat} {tx hall er tp hh hm nw : Nat → Int32} {tax warm : Int32} {tr : Int64} {k0 k1 : Bool} {H : Nat → Nat}
theorem sM_isAhead {Mc : zHp} {f BS : Nat → Int32} {x y : Nat → Nat} (hO : mO tr ty hn Mc) (hT : mT nh np hall er tp tax warm Mc) (hb2 : np ≤ 6) (h179 : Mc 179 = .inl (0, 6, .inl f)) (h180 : Mc 180 = .inl (0, 6, .inl BS)) (hx : ∀ j, j < np → f j = nI (x j) ∧ x j < 10) (hy : ∀ j, j < np → BS j = nI (y j) ∧ y j < 10) : zRuns d mM_isAhead [.ref 168] Mc N S (some (.int (bI (decide (vl x np < vl y np)))), Mc, N, S) := by
  obtain ⟨lt, a, b, c0, e, u, hO⟩ := hO
  obtain ⟨-, -, ⟨f2, h172, g2⟩, -⟩ := hT
  refine zenter (n := 1) kM_isAhead rfl rfl ?_
  repeat' (first | (refine zstep uM_isAhead [2] (by decide) rfl ?_; simp only [List.replicate, bM_isAhead_0, bM_isAhead_46, bM_isAhead_47, bM_isAhead_48, bM_isAhead_54, e_const, e_lconst, e_iload, e_aload, e_lload, e_istore, e_astore, e_lstore, e_iinc, e_bin, e_un, e_div, e_mm, e_ladd, e_lcmp, e_dupi, e_dupr, e_dup2, e_popi, e_goto, e_if, e_icmp, e_sw, e_ret, e_zret0, e_zret1, e_zretb, bI_0, bI_1, bI_t, bI_f, i32_10, i32_01, e_lret, e_vret, e_getf, e_putf, e_iald, e_bald, e_aald, e_alen, e_iast, e_bast, e_aast, e_acopy, e_callS, e_callV, e_callI, e_obj, zg0, zg1, zg2, zg3, zg4, zg5, zg6, zg7, zg8, zg9, zg10, zg11, zg12, zg13, zg14, zg15, zg16, zg17, zg18, zg19, zg20, zg21, zg22, zg23, zt0, zt1, zt2, zt3, zt4, zt5, zt6, zt7, zt8, zt9, zt10, zt11, zt12, zt13, zt14, zt15, zt16, zt17, zt18, zt19, zt20, zt21, zt22, zt23, zsi, zsr, zsl, zsu, zs1, zs2, zs3, zs4, zs5, zs6, zs7, zs8, zs9, zs10, zs11, zs12, zs13, zp0, zp1, zp2, zp3, zp4, zp5, zp6, zm0, zm1, zm2, zm3, zm4, zty0, zty2, zty3, zty10, zty11, zkin_self, ztab_self, zup_app, bx_uu, Option.map_some, decide_eq_true_eq, if_true, if_false, ite_true, ite_false, true_and, and_true, Option.toList_some, Option.toList_none, List.cons_append, List.nil_append, reduceIte, List.length_cons, List.length_nil, Nat.reduceAdd, Nat.reduceLT, Nat.reduceEqDiff, Nat.reduceLeDiff, and_self, not_true_eq_false, not_false_eq_true, Int32.reduceSub, Int32.reduceAdd, Int32.reduceToNatClampNeg, Int32.reduceLE, Int32.reduceLT]) | (exact True.intro) | (refine ite_in ?_ ?_ <;> intro _) | (refine zsw_in ?_ ?_ <;> (first | (intro e0; subst e0) | intro _)) | (refine zsw_out ?_))
  have key := dn_ind (n := np) (P := fun i => (∀ j, j < i → x j = y j) → zGo d mM_isAhead 2 ([.ref 168, .int (nI i)], [], Mc, N, S) (some (.int (bI (decide (vl x np < vl y np)))), Mc, N, S)) ?_ ?_ 0 (Nat.zero_le _)
  · exact key (fun j hj => by omega)
  · intro heq
    rw [decide_eq_false (by rw [vl_congr heq]; omega)]
    refine tM_isAhead_2 _ _ _ ?_
    simp only [bM_isAhead_2, hO, h172, g2, zix0_2, show (nI np ≤ nI np) = True from eq_true (nI_le (Nat.le_refl _) (by omega)), e_const, e_lconst, e_iload, e_aload, e_lload, e_istore, e_astore, e_lstore, e_iinc, e_bin, e_un, e_div, e_mm, e_ladd, e_lcmp, e_dupi, e_dupr, e_dup2, e_popi, e_goto, e_if, e_icmp, e_sw, e_ret, e_zret0, e_zret1, e_zretb, bI_0, bI_1, bI_t, bI_f, i32_10, i32_01, e_lret, e_vret, e_getf, e_putf, e_iald, e_bald, e_aald, e_alen, e_iast, e_bast, e_aast, e_acopy, e_callS, e_callV, e_callI, e_obj, zg0, zg1, zg2, zg3, zg4, zg5, zg6, zg7, zg8, zg9, zg10, zg11, zg12, zg13, zg14, zg15, zg16, zg17, zg18, zg19, zg20, zg21, zg22, zg23, zt0, zt1, zt2, zt3, zt4, zt5, zt6, zt7, zt8, zt9, zt10, zt11, zt12, zt13, zt14, zt15, zt16, zt17, zt18, zt19, zt20, zt21, zt22, zt23, zsi, zsr, zsl, zsu, zs1, zs2, zs3, zs4, zs5, zs6, zs7, zs8, zs9, zs10, zs11, zs12, zs13, zp0, zp1, zp2, zp3, zp4, zp5, zp6, zm0, zm1, zm2, zm3, zm4, zty0, zty2, zty3, zty10, zty11, zkin_self, ztab_self, zup_app, bx_uu, Option.map_some, decide_eq_true_eq, if_true, if_false, ite_true, ite_false, true_and, and_true, Option.toList_some, Option.toList_none, List.cons_append, List.nil_append, reduceIte, List.length_cons, List.length_nil, Nat.reduceAdd, Nat.reduceLT, Nat.reduceEqDiff, Nat.reduceLeDiff, and_self, not_true_eq_false, not_false_eq_true, Int32.reduceSub, Int32.reduceAdd, Int32.reduceToNatClampNeg, Int32.reduceLE, Int32.reduceLT]
    repeat' (first | (refine zstep uM_isAhead [2] (by decide) rfl ?_; simp only [bI_f, bM_isAhead_0, bM_isAhead_46, bM_isAhead_47, bM_isAhead_48, bM_isAhead_54, e_const, e_lconst, e_iload, e_aload, e_lload, e_istore, e_astore, e_lstore, e_iinc, e_bin, e_un, e_div, e_mm, e_ladd, e_lcmp, e_dupi, e_dupr, e_dup2, e_popi, e_goto, e_if, e_icmp, e_sw, e_ret, e_zret0, e_zret1, e_zretb, bI_0, bI_1, bI_t, bI_f, i32_10, i32_01, e_lret, e_vret, e_getf, e_putf, e_iald, e_bald, e_aald, e_alen, e_iast, e_bast, e_aast, e_acopy, e_callS, e_callV, e_callI, e_obj, zg0, zg1, zg2, zg3, zg4, zg5, zg6, zg7, zg8, zg9, zg10, zg11, zg12, zg13, zg14, zg15, zg16, zg17, zg18, zg19, zg20, zg21, zg22, zg23, zt0, zt1, zt2, zt3, zt4, zt5, zt6, zt7, zt8, zt9, zt10, zt11, zt12, zt13, zt14, zt15, zt16, zt17, zt18, zt19, zt20, zt21, zt22, zt23, zsi, zsr, zsl, zsu, zs1, zs2, zs3, zs4, zs5, zs6, zs7, zs8, zs9, zs10, zs11, zs12, zs13, zp0, zp1, zp2, zp3, zp4, zp5, zp6, zm0, zm1, zm2, zm3, zm4, zty0, zty2, zty3, zty10, zty11, zkin_self, ztab_self, zup_app, bx_uu, Option.map_some, decide_eq_true_eq, if_true, if_false, ite_true, ite_false, true_and, and_true, Option.toList_some, Option.toList_none, List.cons_append, List.nil_append, reduceIte, List.length_cons, List.length_nil, Nat.reduceAdd, Nat.reduceLT, Nat.reduceEqDiff, Nat.reduceLeDiff, and_self, not_true_eq_false, not_false_eq_true, Int32.reduceSub, Int32.reduceAdd, Int32.reduceToNatClampNeg, Int32.reduceLE, Int32.reduceLT]) | (exact True.intro) | (refine ite_in ?_ ?_ <;> intro _) | (refine zsw_in ?_ ?_ <;> (first | (intro e0; subst e0) | intro _)) | (refine zsw_out ?_))
  · intro i hi ih heq
    have nge : (nI np ≤ nI i) = False := eq_false (nI_ge hi (by omega))
    have zi : zix (nI i) 6 = some i := zix_nI (by omega) (by decide)
    obtain ⟨x1, x2⟩ := hx i hi
    obtain ⟨y1, y2⟩ := hy i hi
    refine tM_isAhead_2 _ _ _ ?_
    by_cases c : x i = y i
    · simp only [bM_isAhead_2, hO, h172, g2, zix0_2, nge, h179, h180, zi, x1, y1, c, e_const, e_lconst, e_iload, e_aload, e_lload, e_istore, e_astore, e_lstore, e_iinc, e_bin, e_un, e_div, e_mm, e_ladd, e_lcmp, e_dupi, e_dupr, e_dup2, e_popi, e_goto, e_if, e_icmp, e_sw, e_ret, e_zret0, e_zret1, e_zretb, bI_0, bI_1, bI_t, bI_f, i32_10, i32_01, e_lret, e_vret, e_getf, e_putf, e_iald, e_bald, e_aald, e_alen, e_iast, e_bast, e_aast, e_acopy, e_callS, e_callV, e_callI, e_obj, zg0, zg1, zg2, zg3, zg4, zg5, zg6, zg7, zg8, zg9, zg10, zg11, zg12, zg13, zg14, zg15, zg16, zg17, zg18, zg19, zg20, zg21, zg22, zg23, zt0, zt1, zt2, zt3, zt4, zt5, zt6, zt7, zt8, zt9, zt10, zt11, zt12, zt13, zt14, zt15, zt16, zt17, zt18, zt19, zt20, zt21, zt22, zt23, zsi, zsr, zsl, zsu, zs1, zs2, zs3, zs4, zs5, zs6, zs7, zs8, zs9, zs10, zs11, zs12, zs13, zp0, zp1, zp2, zp3, zp4, zp5, zp6, zm0, zm1, zm2, zm3, zm4, zty0, zty2, zty3, zty10, zty11, zkin_self, ztab_self, zup_app, bx_uu, Option.map_some, decide_eq_true_eq, if_true, if_false, ite_true, ite_false, true_and, and_true, Option.toList_some, Option.toList_none, List.cons_append, List.nil_append, reduceIte, List.length_cons, List.length_nil, Nat.reduceAdd, Nat.reduceLT, Nat.reduceEqDiff, Nat.reduceLeDiff, and_self, not_true_eq_false, not_false_eq_true, Int32.reduceSub, Int32.reduceAdd, Int32.reduceToNatClampNeg, Int32.reduceLE, Int32.reduceLT]
      repeat' (first | (refine zstep uM_isAhead [2] (by decide) rfl ?_; simp only [nI_1, bM_isAhead_0, bM_isAhead_46, bM_isAhead_47, bM_isAhead_48, bM_isAhead_54, e_const, e_lconst, e_iload, e_aload, e_lload, e_istore, e_astore, e_lstore, e_iinc, e_bin, e_un, e_div, e_mm, e_ladd, e_lcmp, e_dupi, e_dupr, e_dup2, e_popi, e_goto, e_if, e_icmp, e_sw, e_ret, e_zret0, e_zret1, e_zretb, bI_0, bI_1, bI_t, bI_f, i32_10, i32_01, e_lret, e_vret, e_getf, e_putf, e_iald, e_bald, e_aald, e_alen, e_iast, e_bast, e_aast, e_acopy, e_callS, e_callV, e_callI, e_obj, zg0, zg1, zg2, zg3, zg4, zg5, zg6, zg7, zg8, zg9, zg10, zg11, zg12, zg13, zg14, zg15, zg16, zg17, zg18, zg19, zg20, zg21, zg22, zg23, zt0, zt1, zt2, zt3, zt4, zt5, zt6, zt7, zt8, zt9, zt10, zt11, zt12, zt13, zt14, zt15, zt16, zt17, zt18, zt19, zt20, zt21, zt22, zt23, zsi, zsr, zsl, zsu, zs1, zs2, zs3, zs4, zs5, zs6, zs7, zs8, zs9, zs10, zs11, zs12, zs13, zp0, zp1, zp2, zp3, zp4, zp5, zp6, zm0, zm1, zm2, zm3, zm4, zty0, zty2, zty3, zty10, zty11, zkin_self, ztab_self, zup_app, bx_uu, Option.map_some, decide_eq_true_eq, if_true, if_false, ite_true, ite_false, true_and, and_true, Option.toList_some, Option.toList_none, List.cons_append, List.nil_append, reduceIte, List.length_cons, List.length_nil, Nat.reduceAdd, Nat.reduceLT, Nat.reduceEqDiff, Nat.reduceLeDiff, and_self, not_true_eq_false, not_false_eq_true, Int32.reduceSub, Int32.reduceAdd, Int32.reduceToNatClampNeg, Int32.reduceLE, Int32.reduceLT]) | (exact True.intro) | (refine ite_in ?_ ?_ <;> intro _) | (refine zsw_in ?_ ?_ <;> (first | (intro e0; subst e0) | intro _)) | (refine zsw_out ?_))
      exact ih (fun j hj => by
        by_cases cj : j = i
        · rw [cj]; exact c
        · exact heq j (by omega))
    · have ne : (nI (x i) = nI (y i)) = False := eq_false (fun q => c (by rwa [nI_eq (by omega) (by omega)] at q))
      by_cases c1 : x i < y i
      · rw [decide_eq_true (vl_lt heq c1 np hi (fun j hj => (hx j hj).2))]
        simp only [bM_isAhead_2, hO, h172, g2, zix0_2, nge, h179, h180, zi, x1, y1, ne, show (nI (y i) ≤ nI (x i)) = False from eq_false (nI_ge c1 (by omega)), e_const, e_lconst, e_iload, e_aload, e_lload, e_istore, e_astore, e_lstore, e_iinc, e_bin, e_un, e_div, e_mm, e_ladd, e_lcmp, e_dupi, e_dupr, e_dup2, e_popi, e_goto, e_if, e_icmp, e_sw, e_ret, e_zret0, e_zret1, e_zretb, bI_0, bI_1, bI_t, bI_f, i32_10, i32_01, e_lret, e_vret, e_getf, e_putf, e_iald, e_bald, e_aald, e_alen, e_iast, e_bast, e_aast, e_acopy, e_callS, e_callV, e_callI, e_obj, zg0, zg1, zg2, zg3, zg4, zg5, zg6, zg7, zg8, zg9, zg10, zg11, zg12, zg13, zg14, zg15, zg16, zg17, zg18, zg19, zg20, zg21, zg22, zg23, zt0, zt1, zt2, zt3, zt4, zt5, zt6, zt7, zt8, zt9, zt10, zt11, zt12, zt13, zt14, zt15, zt16, zt17, zt18, zt19, zt20, zt21, zt22, zt23, zsi, zsr, zsl, zsu, zs1, zs2, zs3, zs4, zs5, zs6, zs7, zs8, zs9, zs10, zs11, zs12, zs13, zp0, zp1, zp2, zp3, zp4, zp5, zp6, zm0, zm1, zm2, zm3, zm4, zty0, zty2, zty3, zty10, zty11, zkin_self, ztab_self, zup_app, bx_uu, Option.map_some, decide_eq_true_eq, if_true, if_false, ite_true, ite_false, true_and, and_true, Option.toList_some, Option.toList_none, List.cons_append, List.nil_append, reduceIte, List.length_cons, List.length_nil, Nat.reduceAdd, Nat.reduceLT, Nat.reduceEqDiff, Nat.reduceLeDiff, and_self, not_true_eq_false, not_false_eq_true, Int32.reduceSub, Int32.reduceAdd, Int32.reduceToNatClampNeg, Int32.reduceLE, Int32.reduceLT]
        repeat' (first | (refine zstep uM_isAhead [2] (by decide) rfl ?_; simp only [bI_t, bM_isAhead_0, bM_isAhead_46, bM_isAhead_47, bM_isAhead_48, bM_isAhead_54, e_const, e_lconst, e_iload, e_aload, e_lload, e_istore, e_astore, e_lstore, e_iinc, e_bin, e_un, e_div, e_mm, e_ladd, e_lcmp, e_dupi, e_dupr, e_dup2, e_popi, e_goto, e_if, e_icmp, e_sw, e_ret, e_zret0, e_zret1, e_zretb, bI_0, bI_1, bI_t, bI_f, i32_10, i32_01, e_lret, e_vret, e_getf, e_putf, e_iald, e_bald, e_aald, e_alen, e_iast, e_bast, e_aast, e_acopy, e_callS, e_callV, e_callI, e_obj, zg0, zg1, zg2, zg3, zg4, zg5, zg6, zg7, zg8, zg9, zg10, zg11, zg12, zg13, zg14, zg15, zg16, zg17, zg18, zg19, zg20, zg21, zg22, zg23, zt0, zt1, zt2, zt3, zt4, zt5, zt6, zt7, zt8, zt9, zt10, zt11, zt12, zt13, zt14, zt15, zt16, zt17, zt18, zt19, zt20, zt21, zt22, zt23, zsi, zsr, zsl, zsu, zs1, zs2, zs3, zs4, zs5, zs6, zs7, zs8, zs9, zs10, zs11, zs12, zs13, zp0, zp1, zp2, zp3, zp4, zp5, zp6, zm0, zm1, zm2, zm3, zm4, zty0, zty2, zty3, zty10, zty11, zkin_self, ztab_self, zup_app, bx_uu, Option.map_some, decide_eq_true_eq, if_true, if_false, ite_true, ite_false, true_and, and_true, Option.toList_some, Option.toList_none, List.cons_append, List.nil_append, reduceIte, List.length_cons, List.length_nil, Nat.reduceAdd, Nat.reduceLT, Nat.reduceEqDiff, Nat.reduceLeDiff, and_self, not_true_eq_false, not_false_eq_true, Int32.reduceSub, Int32.reduceAdd, Int32.reduceToNatClampNeg, Int32.reduceLE, Int32.reduceLT]) | (exact True.intro) | (refine ite_in ?_ ?_ <;> intro _) | (refine zsw_in ?_ ?_ <;> (first | (intro e0; subst e0) | intro _)) | (refine zsw_out ?_))
      · have hv := vl_lt (fun j hj => (heq j hj).symm) (show y i < x i by omega) np hi (fun j hj => (hy j hj).2)
        rw [decide_eq_false (by omega)]
        simp only [bM_isAhead_2, hO, h172, g2, zix0_2, nge, h179, h180, zi, x1, y1, ne, show (nI (y i) ≤ nI (x i)) = True from eq_true (nI_le (by omega) (by omega)), e_const, e_lconst, e_iload, e_aload, e_lload, e_istore, e_astore, e_lstore, e_iinc, e_bin, e_un, e_div, e_mm, e_ladd, e_lcmp, e_dupi, e_dupr, e_dup2, e_popi, e_goto, e_if, e_icmp, e_sw, e_ret, e_zret0, e_zret1, e_zretb, bI_0, bI_1, bI_t, bI_f, i32_10, i32_01, e_lret, e_vret, e_getf, e_putf, e_iald, e_bald, e_aald, e_alen, e_iast, e_bast, e_aast, e_acopy, e_callS, e_callV, e_callI, e_obj, zg0, zg1, zg2, zg3, zg4, zg5, zg6, zg7, zg8, zg9, zg10, zg11, zg12, zg13, zg14, zg15, zg16, zg17, zg18, zg19, zg20, zg21, zg22, zg23, zt0, zt1, zt2, zt3, zt4, zt5, zt6, zt7, zt8, zt9, zt10, zt11, zt12, zt13, zt14, zt15, zt16, zt17, zt18, zt19, zt20, zt21, zt22, zt23, zsi, zsr, zsl, zsu, zs1, zs2, zs3, zs4, zs5, zs6, zs7, zs8, zs9, zs10, zs11, zs12, zs13, zp0, zp1, zp2, zp3, zp4, zp5, zp6, zm0, zm1, zm2, zm3, zm4, zty0, zty2, zty3, zty10, zty11, zkin_self, ztab_self, zup_app, bx_uu, Option.map_some, decide_eq_true_eq, if_true, if_false, ite_true, ite_false, true_and, and_true, Option.toList_some, Option.toList_none, List.cons_append, List.nil_append, reduceIte, List.length_cons, List.length_nil, Nat.reduceAdd, Nat.reduceLT, Nat.reduceEqDiff, Nat.reduceLeDiff, and_self, not_true_eq_false, not_false_eq_true, Int32.reduceSub, Int32.reduceAdd, Int32.reduceToNatClampNeg, Int32.reduceLE, Int32.reduceLT]
        repeat' (first | (refine zstep uM_isAhead [2] (by decide) rfl ?_; simp only [bI_f, bM_isAhead_0, bM_isAhead_46, bM_isAhead_47, bM_isAhead_48, bM_isAhead_54, e_const, e_lconst, e_iload, e_aload, e_lload, e_istore, e_astore, e_lstore, e_iinc, e_bin, e_un, e_div, e_mm, e_ladd, e_lcmp, e_dupi, e_dupr, e_dup2, e_popi, e_goto, e_if, e_icmp, e_sw, e_ret, e_zret0, e_zret1, e_zretb, bI_0, bI_1, bI_t, bI_f, i32_10, i32_01, e_lret, e_vret, e_getf, e_putf, e_iald, e_bald, e_aald, e_alen, e_iast, e_bast, e_aast, e_acopy, e_callS, e_callV, e_callI, e_obj, zg0, zg1, zg2, zg3, zg4, zg5, zg6, zg7, zg8, zg9, zg10, zg11, zg12, zg13, zg14, zg15, zg16, zg17, zg18, zg19, zg20, zg21, zg22, zg23, zt0, zt1, zt2, zt3, zt4, zt5, zt6, zt7, zt8, zt9, zt10, zt11, zt12, zt13, zt14, zt15, zt16, zt17, zt18, zt19, zt20, zt21, zt22, zt23, zsi, zsr, zsl, zsu, zs1, zs2, zs3, zs4, zs5, zs6, zs7, zs8, zs9, zs10, zs11, zs12, zs13, zp0, zp1, zp2, zp3, zp4, zp5, zp6, zm0, zm1, zm2, zm3, zm4, zty0, zty2, zty3, zty10, zty11, zkin_self, ztab_self, zup_app, bx_uu, Option.map_some, decide_eq_true_eq, if_true, if_false, ite_true, ite_false, true_and, and_true, Option.toList_some, Option.toList_none, List.cons_append, List.nil_append, reduceIte, List.length_cons, List.length_nil, Nat.reduceAdd, Nat.reduceLT, Nat.reduceEqDiff, Nat.reduceLeDiff, and_self, not_true_eq_false, not_false_eq_true, Int32.reduceSub, Int32.reduceAdd, Int32.reduceToNatClampNeg, Int32.reduceLE, Int32.reduceLT]) | (exact True.intro) | (refine ite_in ?_ ?_ <;> intro _) | (refine zsw_in ?_ ?_ <;> (first | (intro e0; subst e0) | intro _)) | (refine zsw_out ?_))
theorem sM_hsCopy {M : zHp} {f : Nat → Int32} {P C L cd u v m n : Int32} (hO : mO tr ty hn M) (hT : mT nh np hall er tp tax warm M) (hb2 : np ≤ 6) (h179 : M 179 = .inl (0, 6, .inl f)) : ∀ (k i : Nat), i + k = np → ∀ (Mc : zHp) (BS : Nat → Int32), (∀ a, ¬ a = 180 → Mc a = M a) → Mc 180 = .inl (0, 6, .inl BS) → (∀ j, j < i → BS j = f j) → ∃ (M' : zHp) (BS' : Nat → Int32), (∀ a, ¬ a = 180 → M' a = M a) ∧ M' 180 = .inl (0, 6, .inl BS') ∧ (∀ j, j < np → BS' j = f j) ∧ ∀ F : zF, zGo d mM_homes 257 ([.ref 168, .int P, .int C, .int L, .int cd, .int u, .int v, .int m, .int n, .int (nI np)], [], M', N, S) F → zGo d mM_homes 226 ([.ref 168, .int P, .int C, .int L, .int cd, .int u, .int v, .int m, .int n, .int (nI i)], [], Mc, N, S) F := by
  obtain ⟨lt, a, b, c0, e, u', hO⟩ := hO
  obtain ⟨-, -, ⟨f2, h172, g2⟩, -⟩ := hT
  intro k
  induction k with
  | zero =>
    intro i hi Mc BS fr h180 hB
    obtain rfl : i = np := by omega
    have hO' := (fr 168 (by omega)).trans hO
    have h172' := (fr 172 (by omega)).trans h172
    refine ⟨Mc, BS, fr, h180, hB, fun F hF => ?_⟩
    refine tM_homes_226 _ _ _ ?_
    simp only [bM_homes_226, hO', h172', g2, zix0_2, show (nI i ≤ nI i) = True from eq_true (nI_le (Nat.le_refl _) (by omega)), e_const, e_lconst, e_iload, e_aload, e_lload, e_istore, e_astore, e_lstore, e_iinc, e_bin, e_un, e_div, e_mm, e_ladd, e_lcmp, e_dupi, e_dupr, e_dup2, e_popi, e_goto, e_if, e_icmp, e_sw, e_ret, e_zret0, e_zret1, e_zretb, bI_0, bI_1, bI_t, bI_f, i32_10, i32_01, e_lret, e_vret, e_getf, e_putf, e_iald, e_bald, e_aald, e_alen, e_iast, e_bast, e_aast, e_acopy, e_callS, e_callV, e_callI, e_obj, zg0, zg1, zg2, zg3, zg4, zg5, zg6, zg7, zg8, zg9, zg10, zg11, zg12, zg13, zg14, zg15, zg16, zg17, zg18, zg19, zg20, zg21, zg22, zg23, zt0, zt1, zt2, zt3, zt4, zt5, zt6, zt7, zt8, zt9, zt10, zt11, zt12, zt13, zt14, zt15, zt16, zt17, zt18, zt19, zt20, zt21, zt22, zt23, zsi, zsr, zsl, zsu, zs1, zs2, zs3, zs4, zs5, zs6, zs7, zs8, zs9, zs10, zs11, zs12, zs13, zp0, zp1, zp2, zp3, zp4, zp5, zp6, zm0, zm1, zm2, zm3, zm4, zty0, zty2, zty3, zty10, zty11, zkin_self, ztab_self, zup_app, bx_uu, Option.map_some, decide_eq_true_eq, if_true, if_false, ite_true, ite_false, true_and, and_true, Option.toList_some, Option.toList_none, List.cons_append, List.nil_append, reduceIte, List.length_cons, List.length_nil, Nat.reduceAdd, Nat.reduceLT, Nat.reduceEqDiff, Nat.reduceLeDiff, and_self, not_true_eq_false, not_false_eq_true, Int32.reduceSub, Int32.reduceAdd, Int32.reduceToNatClampNeg, Int32.reduceLE, Int32.reduceLT]
    exact hF
  | succ k ih =>
    intro i hi Mc BS fr h180 hB
    have hO' := (fr 168 (by omega)).trans hO
    have h172' := (fr 172 (by omega)).trans h172
    have h179' := (fr 179 (by omega)).trans h179
    have nge : (nI np ≤ nI i) = False := eq_false (nI_ge (by omega) (by omega))
    have zi : zix (nI i) 6 = some i := zix_nI (by omega) (by decide)
    obtain ⟨M', BS', q1, q2, q3, q4⟩ := ih (i + 1) (by omega) (va_up Mc 180 (.inl (0, 6, .inl (upd BS i (f i))))) (upd BS i (f i)) (fun a ha => by simp only [zup_app]; rw [if_neg ha]; exact fr a ha) (by simp only [zup_app]; rw [if_pos trivial]) (fun j hj => by
      by_cases c : j = i
      · subst c
        rw [pk_us]
      · rw [pk_un c]; exact hB j (by omega))
    refine ⟨M', BS', q1, q2, q3, fun F hF => ?_⟩
    refine tM_homes_226 _ _ _ ?_
    simp only [bM_homes_226, hO', h172', g2, zix0_2, nge, h179', h180, zi, nI_1, e_const, e_lconst, e_iload, e_aload, e_lload, e_istore, e_astore, e_lstore, e_iinc, e_bin, e_un, e_div, e_mm, e_ladd, e_lcmp, e_dupi, e_dupr, e_dup2, e_popi, e_goto, e_if, e_icmp, e_sw, e_ret, e_zret0, e_zret1, e_zretb, bI_0, bI_1, bI_t, bI_f, i32_10, i32_01, e_lret, e_vret, e_getf, e_putf, e_iald, e_bald, e_aald, e_alen, e_iast, e_bast, e_aast, e_acopy, e_callS, e_callV, e_callI, e_obj, zg0, zg1, zg2, zg3, zg4, zg5, zg6, zg7, zg8, zg9, zg10, zg11, zg12, zg13, zg14, zg15, zg16, zg17, zg18, zg19, zg20, zg21, zg22, zg23, zt0, zt1, zt2, zt3, zt4, zt5, zt6, zt7, zt8, zt9, zt10, zt11, zt12, zt13, zt14, zt15, zt16, zt17, zt18, zt19, zt20, zt21, zt22, zt23, zsi, zsr, zsl, zsu, zs1, zs2, zs3, zs4, zs5, zs6, zs7, zs8, zs9, zs10, zs11, zs12, zs13, zp0, zp1, zp2, zp3, zp4, zp5, zp6, zm0, zm1, zm2, zm3, zm4, zty0, zty2, zty3, zty10, zty11, zkin_self, ztab_self, zup_app, bx_uu, Option.map_some, decide_eq_true_eq, if_true, if_false, ite_true, ite_false, true_and, and_true, Option.toList_some, Option.toList_none, List.cons_append, List.nil_append, reduceIte, List.length_cons, List.length_nil, Nat.reduceAdd, Nat.reduceLT, Nat.reduceEqDiff, Nat.reduceLeDiff, and_self, not_true_eq_false, not_false_eq_true, Int32.reduceSub, Int32.reduceAdd, Int32.reduceToNatClampNeg, Int32.reduceLE, Int32.reduceLT]
    exact q4 F hF
theorem sM_hsIn {M : zHp} {P C L : Int32} {code : Nat} (hO : mO tr ty hn M) (hT : mT nh np hall er tp tax warm M) (hN : mN nw M) (hb2 : np ≤ 6) (hcd : code < 2 ^ 20) : ∀ (m : Nat), m ≤ np → ∀ (Mc : zHp) (f : Nat → Int32) (U : Nat) (w : Value), (w = .retAddr 0 ∨ ∃ z : Int32, w = .int z) → (∀ a, ¬ a = 179 → Mc a = M a) → Mc 179 = .inl (0, 6, .inl f) → U < 64 → (∀ x, x < 6 → (U.testBit x = true ↔ ∃ j, m ≤ j ∧ j < np ∧ dgt np code j = x)) → (∀ j, m ≤ j → j < np → dgt np code j < np ∧ f j = nw (6 + dgt np code j)) → (∀ i j, m ≤ i → i < np → m ≤ j → j < np → dgt np code i = dgt np code j → i = j) →
    ∃ (M' : zHp) (f' : Nat → Int32) (U' v' o' : Int32) (w' : Value) (b : Bool), ((∃ z : Int32, w' = .int z) ∨ (m = 0 ∧ w' = w)) ∧ (∀ a, ¬ a = 179 → M' a = M a) ∧ M' 179 = .inl (0, 6, .inl f') ∧ (b = true → Val np (dgt np code) ∧ ∀ j, j < np → f' j = nw (6 + dgt np code j)) ∧ (Val np (dgt np code) → b = true) ∧ ∀ F : zF, zGo d mM_homes 177 ([.ref 168, .int P, .int C, .int L, .int (nI code), .int U', .int v', .int (bI b), .int o', w'], [], M', N, S) F → zGo d mM_homes 84 ([.ref 168, .int P, .int C, .int L, .int (nI code), .int (nI U), .int (nI (code / 6 ^ (np - m))), .int 1, .int (nI m + (-1)), w], [], Mc, N, S) F := by
  obtain ⟨lt, a, b, c0, e, u', hO⟩ := hO
  obtain ⟨-, -, ⟨f2, h172, g2⟩, -⟩ := hT
  unfold mN at hN
  intro m
  induction m with
  | zero =>
    intro _ Mc f U w hw fr h179 hU hUb hf hi
    refine ⟨Mc, f, nI U, nI (code / 6 ^ (np - 0)), nI 0 + (-1), w, true, Or.inr ⟨rfl, rfl⟩, fr, h179, fun _ => ⟨⟨fun j hj => (hf j (by omega) hj).1, fun i j h1 h2 e => hi i j (by omega) h1 (by omega) h2 e⟩, fun j hj => (hf j (by omega) hj).2⟩, fun _ => rfl, fun F hF => ?_⟩
    refine tM_homes_84 _ _ _ ?_
    simp only [bM_homes_84, show (nI 0 + (-1) < 0) = True by decide, e_const, e_lconst, e_iload, e_aload, e_lload, e_istore, e_astore, e_lstore, e_iinc, e_bin, e_un, e_div, e_mm, e_ladd, e_lcmp, e_dupi, e_dupr, e_dup2, e_popi, e_goto, e_if, e_icmp, e_sw, e_ret, e_zret0, e_zret1, e_zretb, bI_0, bI_1, bI_t, bI_f, i32_10, i32_01, e_lret, e_vret, e_getf, e_putf, e_iald, e_bald, e_aald, e_alen, e_iast, e_bast, e_aast, e_acopy, e_callS, e_callV, e_callI, e_obj, zg0, zg1, zg2, zg3, zg4, zg5, zg6, zg7, zg8, zg9, zg10, zg11, zg12, zg13, zg14, zg15, zg16, zg17, zg18, zg19, zg20, zg21, zg22, zg23, zt0, zt1, zt2, zt3, zt4, zt5, zt6, zt7, zt8, zt9, zt10, zt11, zt12, zt13, zt14, zt15, zt16, zt17, zt18, zt19, zt20, zt21, zt22, zt23, zsi, zsr, zsl, zsu, zs1, zs2, zs3, zs4, zs5, zs6, zs7, zs8, zs9, zs10, zs11, zs12, zs13, zp0, zp1, zp2, zp3, zp4, zp5, zp6, zm0, zm1, zm2, zm3, zm4, zty0, zty2, zty3, zty10, zty11, zkin_self, ztab_self, zup_app, bx_uu, Option.map_some, decide_eq_true_eq, if_true, if_false, ite_true, ite_false, true_and, and_true, Option.toList_some, Option.toList_none, List.cons_append, List.nil_append, reduceIte, List.length_cons, List.length_nil, Nat.reduceAdd, Nat.reduceLT, Nat.reduceEqDiff, Nat.reduceLeDiff, and_self, not_true_eq_false, not_false_eq_true, Int32.reduceSub, Int32.reduceAdd, Int32.reduceToNatClampNeg, Int32.reduceLE, Int32.reduceLT]
    exact hF
  | succ m ih =>
    intro hm Mc f U w hw fr h179 hU hUb hf hi
    have hO' := (fr 168 (by omega)).trans hO
    have h172' := (fr 172 (by omega)).trans h172
    have hN' := (fr 177 (by omega)).trans hN
    have hV : code / 6 ^ (np - (m + 1)) < 2 ^ 31 := Nat.lt_of_le_of_lt (Nat.div_le_self _ _) (by omega)
    have ed : code / 6 ^ (np - (m + 1)) % 6 = dgt np code m := by
      unfold dgt
      rw [show np - (m + 1) = np - 1 - m by omega]
    have ev : code / 6 ^ (np - (m + 1)) / 6 = code / 6 ^ (np - m) := by
      rw [Nat.div_div_eq_div_mul, ← Nat.pow_succ, show (np - (m + 1)).succ = np - m by omega]
    have hd6 : dgt np code m < 6 := Nat.mod_lt _ (by decide)
    have rem6 : nI (code / 6 ^ (np - (m + 1))) - nI (code / 6 ^ (np - (m + 1))) / 6 * 6 = nI (dgt np code m) := (pk_rem (d := 6) hV (by decide) (by decide)).trans (by rw [ed])
    have div6 : nI (code / 6 ^ (np - (m + 1))) / 6 = nI (code / 6 ^ (np - m)) := (pk_div (d := 6) hV (by decide) (by decide)).trans (by rw [ev])
    rw [div6] at rem6
    have nlt : (nI m < 0) = False := eq_false (nI_pos (by omega))
    have ne6 : ((6 : Int32) = 0) = False := by decide
    have zm : zix (nI m) 6 = some m := zix_nI (by omega) (by decide)
    generalize hD : dgt np code m = D at hd6 rem6
    have ub := us_bit ⟨U, hU⟩ ⟨D, hd6⟩
    have ub : decide ((nI U >>> (nI D &&& 31)) &&& 1 = 0) = !(U.testBit D) := ub
    obtain ⟨uo, ul⟩ := us_or ⟨U, hU⟩ ⟨D, hd6⟩
    have uo : nI U ||| ((1 : Int32) <<< (nI D &&& 31)) = nI (U ||| (1 <<< D)) := uo
    have ul : U ||| (1 <<< D) < 64 := ul
    have ut : ∀ x, x < 6 → (U ||| (1 <<< D)).testBit x = (U.testBit x || decide (x = D)) := fun x hx => us_tb ⟨U, hU⟩ ⟨D, hd6⟩ ⟨x, hx⟩
    have z6D : zix (6 + nI D) 729 = some (6 + D) := zix_eq (by rw [show (6 : Int32) = nI 6 from rfl, nI_add]) (by omega) (by decide)
    have hbad : ∀ x : Int32, ¬ Val np (dgt np code) → (∀ F : zF, zGo d mM_homes 84 ([.ref 168, .int P, .int C, .int L, .int (nI code), .int (nI (U ||| (1 <<< D))), .int (nI (code / 6 ^ (np - m))), .int 0, .int (nI m + (-1)), .int (nI D)], [], va_up Mc 179 (.inl (0, 6, .inl (upd f m 0))), N, S) F → zGo d mM_homes 84 ([.ref 168, .int P, .int C, .int L, .int (nI code), .int (nI U), .int (nI (code / 6 ^ (np - (m + 1)))), .int 1, .int (nI (m + 1) + (-1)), w], [], Mc, N, S) F) → ∃ (M' : zHp) (f' : Nat → Int32) (U' v' o' : Int32) (w' : Value) (b : Bool), ((∃ z : Int32, w' = .int z) ∨ (m + 1 = 0 ∧ w' = w)) ∧ (∀ a, ¬ a = 179 → M' a = M a) ∧ M' 179 = .inl (0, 6, .inl f') ∧ (b = true → Val np (dgt np code) ∧ ∀ j, j < np → f' j = nw (6 + dgt np code j)) ∧ (Val np (dgt np code) → b = true) ∧ ∀ F : zF, zGo d mM_homes 177 ([.ref 168, .int P, .int C, .int L, .int (nI code), .int U', .int v', .int (bI b), .int o', w'], [], M', N, S) F → zGo d mM_homes 84 ([.ref 168, .int P, .int C, .int L, .int (nI code), .int (nI U), .int (nI (code / 6 ^ (np - (m + 1)))), .int 1, .int (nI (m + 1) + (-1)), w], [], Mc, N, S) F := by
      intro _ hnv k
      refine ⟨va_up Mc 179 (.inl (0, 6, .inl (upd f m 0))), upd f m 0, nI (U ||| (1 <<< D)), nI (code / 6 ^ (np - m)), nI m + (-1), .int (nI D), false, Or.inl ⟨_, rfl⟩, fun a ha => by simp only [zup_app]; rw [if_neg ha]; exact fr a ha, by simp only [zup_app]; rw [if_pos trivial], (fun q => by cases q), fun q => absurd q hnv, fun F hF => k F ?_⟩
      refine tM_homes_84 _ _ _ ?_
      simp only [bM_homes_84, ite_self, e_const, e_lconst, e_iload, e_aload, e_lload, e_istore, e_astore, e_lstore, e_iinc, e_bin, e_un, e_div, e_mm, e_ladd, e_lcmp, e_dupi, e_dupr, e_dup2, e_popi, e_goto, e_if, e_icmp, e_sw, e_ret, e_zret0, e_zret1, e_zretb, bI_0, bI_1, bI_t, bI_f, i32_10, i32_01, e_lret, e_vret, e_getf, e_putf, e_iald, e_bald, e_aald, e_alen, e_iast, e_bast, e_aast, e_acopy, e_callS, e_callV, e_callI, e_obj, zg0, zg1, zg2, zg3, zg4, zg5, zg6, zg7, zg8, zg9, zg10, zg11, zg12, zg13, zg14, zg15, zg16, zg17, zg18, zg19, zg20, zg21, zg22, zg23, zt0, zt1, zt2, zt3, zt4, zt5, zt6, zt7, zt8, zt9, zt10, zt11, zt12, zt13, zt14, zt15, zt16, zt17, zt18, zt19, zt20, zt21, zt22, zt23, zsi, zsr, zsl, zsu, zs1, zs2, zs3, zs4, zs5, zs6, zs7, zs8, zs9, zs10, zs11, zs12, zs13, zp0, zp1, zp2, zp3, zp4, zp5, zp6, zm0, zm1, zm2, zm3, zm4, zty0, zty2, zty3, zty10, zty11, zkin_self, ztab_self, zup_app, bx_uu, Option.map_some, decide_eq_true_eq, if_true, if_false, ite_true, ite_false, true_and, and_true, Option.toList_some, Option.toList_none, List.cons_append, List.nil_append, reduceIte, List.length_cons, List.length_nil, Nat.reduceAdd, Nat.reduceLT, Nat.reduceEqDiff, Nat.reduceLeDiff, and_self, not_true_eq_false, not_false_eq_true, Int32.reduceSub, Int32.reduceAdd, Int32.reduceToNatClampNeg, Int32.reduceLE, Int32.reduceLT]
      exact hF
    by_cases c1 : D < np
    · cases c2 : U.testBit D with
      | true =>
        have hb0 : ((nI U >>> (nI D &&& 31)) &&& 1 = 0) = False := eq_false (of_decide_eq_false (by rw [ub, c2]; rfl))
        refine hbad 0 (fun hval => ?_) (fun F hF => ?_)
        · obtain ⟨j, j1, j2, j3⟩ := (hUb D hd6).mp c2
          have := hval.2 j m j2 (by omega) (by rw [j3, hD])
          omega
        · refine tM_homes_84 _ _ _ ?_
          all_goals
            simp only [zsw0 hw, bM_homes_84, nI_m1, nlt, i32_10, ne6, rem6, div6, hO', h172', g2, zix0_2, show (nI np ≤ nI D) = False from eq_false (nI_ge c1 (by omega)), hb0, e_const, e_lconst, e_iload, e_aload, e_lload, e_istore, e_astore, e_lstore, e_iinc, e_bin, e_un, e_div, e_mm, e_ladd, e_lcmp, e_dupi, e_dupr, e_dup2, e_popi, e_goto, e_if, e_icmp, e_sw, e_ret, e_zret0, e_zret1, e_zretb, bI_0, bI_1, bI_t, bI_f, i32_10, i32_01, e_lret, e_vret, e_getf, e_putf, e_iald, e_bald, e_aald, e_alen, e_iast, e_bast, e_aast, e_acopy, e_callS, e_callV, e_callI, e_obj, zg0, zg1, zg2, zg3, zg4, zg5, zg6, zg7, zg8, zg9, zg10, zg11, zg12, zg13, zg14, zg15, zg16, zg17, zg18, zg19, zg20, zg21, zg22, zg23, zt0, zt1, zt2, zt3, zt4, zt5, zt6, zt7, zt8, zt9, zt10, zt11, zt12, zt13, zt14, zt15, zt16, zt17, zt18, zt19, zt20, zt21, zt22, zt23, zsi, zsr, zsl, zsu, zs1, zs2, zs3, zs4, zs5, zs6, zs7, zs8, zs9, zs10, zs11, zs12, zs13, zp0, zp1, zp2, zp3, zp4, zp5, zp6, zm0, zm1, zm2, zm3, zm4, zty0, zty2, zty3, zty10, zty11, zkin_self, ztab_self, zup_app, bx_uu, Option.map_some, decide_eq_true_eq, if_true, if_false, ite_true, ite_false, true_and, and_true, Option.toList_some, Option.toList_none, List.cons_append, List.nil_append, reduceIte, List.length_cons, List.length_nil, Nat.reduceAdd, Nat.reduceLT, Nat.reduceEqDiff, Nat.reduceLeDiff, and_self, not_true_eq_false, not_false_eq_true, Int32.reduceSub, Int32.reduceAdd, Int32.reduceToNatClampNeg, Int32.reduceLE, Int32.reduceLT]
            repeat' (first | (refine zstep uM_homes [84, 177] (by decide) rfl ?_; simp only [uo, hO', h179, zm, bM_homes_0, bM_homes_15, bM_homes_27, bM_homes_31, bM_homes_52, bM_homes_58, bM_homes_133, bM_homes_134, bM_homes_169, bM_homes_170, bM_homes_220, bM_homes_226, bM_homes_257, bM_homes_263, bM_homes_272, bM_homes_278, e_const, e_lconst, e_iload, e_aload, e_lload, e_istore, e_astore, e_lstore, e_iinc, e_bin, e_un, e_div, e_mm, e_ladd, e_lcmp, e_dupi, e_dupr, e_dup2, e_popi, e_goto, e_if, e_icmp, e_sw, e_ret, e_zret0, e_zret1, e_zretb, bI_0, bI_1, bI_t, bI_f, i32_10, i32_01, e_lret, e_vret, e_getf, e_putf, e_iald, e_bald, e_aald, e_alen, e_iast, e_bast, e_aast, e_acopy, e_callS, e_callV, e_callI, e_obj, zg0, zg1, zg2, zg3, zg4, zg5, zg6, zg7, zg8, zg9, zg10, zg11, zg12, zg13, zg14, zg15, zg16, zg17, zg18, zg19, zg20, zg21, zg22, zg23, zt0, zt1, zt2, zt3, zt4, zt5, zt6, zt7, zt8, zt9, zt10, zt11, zt12, zt13, zt14, zt15, zt16, zt17, zt18, zt19, zt20, zt21, zt22, zt23, zsi, zsr, zsl, zsu, zs1, zs2, zs3, zs4, zs5, zs6, zs7, zs8, zs9, zs10, zs11, zs12, zs13, zp0, zp1, zp2, zp3, zp4, zp5, zp6, zm0, zm1, zm2, zm3, zm4, zty0, zty2, zty3, zty10, zty11, zkin_self, ztab_self, zup_app, bx_uu, Option.map_some, decide_eq_true_eq, if_true, if_false, ite_true, ite_false, true_and, and_true, Option.toList_some, Option.toList_none, List.cons_append, List.nil_append, reduceIte, List.length_cons, List.length_nil, Nat.reduceAdd, Nat.reduceLT, Nat.reduceEqDiff, Nat.reduceLeDiff, and_self, not_true_eq_false, not_false_eq_true, Int32.reduceSub, Int32.reduceAdd, Int32.reduceToNatClampNeg, Int32.reduceLE, Int32.reduceLT]) | (exact True.intro) | (refine ite_in ?_ ?_ <;> intro _) | (refine zsw_in ?_ ?_ <;> (first | (intro e0; subst e0) | intro _)) | (refine zsw_out ?_))
            exact hF
      | false =>
        have hb0 : ((nI U >>> (nI D &&& 31)) &&& 1 = 0) = True := eq_true (of_decide_eq_true (by rw [ub, c2]; rfl))
        obtain ⟨M', f', U', v', o', w', b, q1, q2, q3, q4, q5, q6⟩ := ih (by omega) (va_up Mc 179 (.inl (0, 6, .inl (upd f m (nw (6 + D)))))) (upd f m (nw (6 + D))) (U ||| (1 <<< D)) (.int (nI D)) (Or.inr ⟨_, rfl⟩) (fun a ha => by simp only [zup_app]; rw [if_neg ha]; exact fr a ha) (by simp only [zup_app]; rw [if_pos trivial]) ul (fun x hx => by
            rw [ut x hx, Bool.or_eq_true, decide_eq_true_eq, hUb x hx]
            constructor
            · rintro (⟨j, j1, j2, j3⟩ | rfl)
              · exact ⟨j, by omega, j2, j3⟩
              · exact ⟨m, Nat.le_refl _, by omega, hD⟩
            · rintro ⟨j, j1, j2, j3⟩
              by_cases cj : j = m
              · subst cj
                exact Or.inr (by omega)
              · exact Or.inl ⟨j, by omega, j2, j3⟩) (fun j j1 j2 => by
            by_cases cj : j = m
            · subst cj
              rw [pk_us, hD]
              exact ⟨c1, rfl⟩
            · rw [pk_un cj]; exact hf j (by omega) j2) (fun i j i1 i2 j1 j2 e => by
            have hno : ∀ k, m + 1 ≤ k → k < np → ¬ dgt np code k = D := fun k k1 k2 q => by
              have := (hUb D hd6).mpr ⟨k, k1, k2, q⟩
              rw [c2] at this
              cases this
            by_cases ci : i = m
            · by_cases cj : j = m
              · omega
              · subst ci
                exact absurd (e.symm.trans hD) (hno j (by omega) j2)
            · by_cases cj : j = m
              · subst cj
                exact absurd (e.trans hD) (hno i (by omega) i2)
              · exact hi i j (by omega) i2 (by omega) j2 e)
        refine ⟨M', f', U', v', o', w', b, ?_, q2, q3, q4, q5, fun F hF => ?_⟩
        · rcases q1 with q1 | ⟨-, q1⟩
          · exact Or.inl q1
          · exact Or.inl ⟨_, q1⟩
        · refine tM_homes_84 _ _ _ ?_
          have q6 := q6 F hF
          all_goals
            simp only [zsw0 hw, bM_homes_84, nI_m1, nlt, i32_10, ne6, rem6, div6, hO', h172', g2, zix0_2, show (nI np ≤ nI D) = False from eq_false (nI_ge c1 (by omega)), hb0, e_const, e_lconst, e_iload, e_aload, e_lload, e_istore, e_astore, e_lstore, e_iinc, e_bin, e_un, e_div, e_mm, e_ladd, e_lcmp, e_dupi, e_dupr, e_dup2, e_popi, e_goto, e_if, e_icmp, e_sw, e_ret, e_zret0, e_zret1, e_zretb, bI_0, bI_1, bI_t, bI_f, i32_10, i32_01, e_lret, e_vret, e_getf, e_putf, e_iald, e_bald, e_aald, e_alen, e_iast, e_bast, e_aast, e_acopy, e_callS, e_callV, e_callI, e_obj, zg0, zg1, zg2, zg3, zg4, zg5, zg6, zg7, zg8, zg9, zg10, zg11, zg12, zg13, zg14, zg15, zg16, zg17, zg18, zg19, zg20, zg21, zg22, zg23, zt0, zt1, zt2, zt3, zt4, zt5, zt6, zt7, zt8, zt9, zt10, zt11, zt12, zt13, zt14, zt15, zt16, zt17, zt18, zt19, zt20, zt21, zt22, zt23, zsi, zsr, zsl, zsu, zs1, zs2, zs3, zs4, zs5, zs6, zs7, zs8, zs9, zs10, zs11, zs12, zs13, zp0, zp1, zp2, zp3, zp4, zp5, zp6, zm0, zm1, zm2, zm3, zm4, zty0, zty2, zty3, zty10, zty11, zkin_self, ztab_self, zup_app, bx_uu, Option.map_some, decide_eq_true_eq, if_true, if_false, ite_true, ite_false, true_and, and_true, Option.toList_some, Option.toList_none, List.cons_append, List.nil_append, reduceIte, List.length_cons, List.length_nil, Nat.reduceAdd, Nat.reduceLT, Nat.reduceEqDiff, Nat.reduceLeDiff, and_self, not_true_eq_false, not_false_eq_true, Int32.reduceSub, Int32.reduceAdd, Int32.reduceToNatClampNeg, Int32.reduceLE, Int32.reduceLT]
            repeat' (first | (refine zstep uM_homes [84, 177] (by decide) rfl ?_; simp only [uo, i32_10, hO', h179, hN', z6D, zm, bM_homes_0, bM_homes_15, bM_homes_27, bM_homes_31, bM_homes_52, bM_homes_58, bM_homes_133, bM_homes_134, bM_homes_169, bM_homes_170, bM_homes_220, bM_homes_226, bM_homes_257, bM_homes_263, bM_homes_272, bM_homes_278, e_const, e_lconst, e_iload, e_aload, e_lload, e_istore, e_astore, e_lstore, e_iinc, e_bin, e_un, e_div, e_mm, e_ladd, e_lcmp, e_dupi, e_dupr, e_dup2, e_popi, e_goto, e_if, e_icmp, e_sw, e_ret, e_zret0, e_zret1, e_zretb, bI_0, bI_1, bI_t, bI_f, i32_10, i32_01, e_lret, e_vret, e_getf, e_putf, e_iald, e_bald, e_aald, e_alen, e_iast, e_bast, e_aast, e_acopy, e_callS, e_callV, e_callI, e_obj, zg0, zg1, zg2, zg3, zg4, zg5, zg6, zg7, zg8, zg9, zg10, zg11, zg12, zg13, zg14, zg15, zg16, zg17, zg18, zg19, zg20, zg21, zg22, zg23, zt0, zt1, zt2, zt3, zt4, zt5, zt6, zt7, zt8, zt9, zt10, zt11, zt12, zt13, zt14, zt15, zt16, zt17, zt18, zt19, zt20, zt21, zt22, zt23, zsi, zsr, zsl, zsu, zs1, zs2, zs3, zs4, zs5, zs6, zs7, zs8, zs9, zs10, zs11, zs12, zs13, zp0, zp1, zp2, zp3, zp4, zp5, zp6, zm0, zm1, zm2, zm3, zm4, zty0, zty2, zty3, zty10, zty11, zkin_self, ztab_self, zup_app, bx_uu, Option.map_some, decide_eq_true_eq, if_true, if_false, ite_true, ite_false, true_and, and_true, Option.toList_some, Option.toList_none, List.cons_append, List.nil_append, reduceIte, List.length_cons, List.length_nil, Nat.reduceAdd, Nat.reduceLT, Nat.reduceEqDiff, Nat.reduceLeDiff, and_self, not_true_eq_false, not_false_eq_true, Int32.reduceSub, Int32.reduceAdd, Int32.reduceToNatClampNeg, Int32.reduceLE, Int32.reduceLT]) | (exact True.intro) | (refine ite_in ?_ ?_ <;> intro _) | (refine zsw_in ?_ ?_ <;> (first | (intro e0; subst e0) | intro _)) | (refine zsw_out ?_))
            exact q6
    · refine hbad 0 (fun hval => ?_) (fun F hF => ?_)
      · have := hval.1 m (by omega)
        omega
      · refine tM_homes_84 _ _ _ ?_
        all_goals
          simp only [zsw0 hw, bM_homes_84, nI_m1, nlt, i32_10, ne6, rem6, div6, hO', h172', g2, zix0_2, show (nI np ≤ nI D) = True from eq_true (nI_le (by omega) (by omega)), e_const, e_lconst, e_iload, e_aload, e_lload, e_istore, e_astore, e_lstore, e_iinc, e_bin, e_un, e_div, e_mm, e_ladd, e_lcmp, e_dupi, e_dupr, e_dup2, e_popi, e_goto, e_if, e_icmp, e_sw, e_ret, e_zret0, e_zret1, e_zretb, bI_0, bI_1, bI_t, bI_f, i32_10, i32_01, e_lret, e_vret, e_getf, e_putf, e_iald, e_bald, e_aald, e_alen, e_iast, e_bast, e_aast, e_acopy, e_callS, e_callV, e_callI, e_obj, zg0, zg1, zg2, zg3, zg4, zg5, zg6, zg7, zg8, zg9, zg10, zg11, zg12, zg13, zg14, zg15, zg16, zg17, zg18, zg19, zg20, zg21, zg22, zg23, zt0, zt1, zt2, zt3, zt4, zt5, zt6, zt7, zt8, zt9, zt10, zt11, zt12, zt13, zt14, zt15, zt16, zt17, zt18, zt19, zt20, zt21, zt22, zt23, zsi, zsr, zsl, zsu, zs1, zs2, zs3, zs4, zs5, zs6, zs7, zs8, zs9, zs10, zs11, zs12, zs13, zp0, zp1, zp2, zp3, zp4, zp5, zp6, zm0, zm1, zm2, zm3, zm4, zty0, zty2, zty3, zty10, zty11, zkin_self, ztab_self, zup_app, bx_uu, Option.map_some, decide_eq_true_eq, if_true, if_false, ite_true, ite_false, true_and, and_true, Option.toList_some, Option.toList_none, List.cons_append, List.nil_append, reduceIte, List.length_cons, List.length_nil, Nat.reduceAdd, Nat.reduceLT, Nat.reduceEqDiff, Nat.reduceLeDiff, and_self, not_true_eq_false, not_false_eq_true, Int32.reduceSub, Int32.reduceAdd, Int32.reduceToNatClampNeg, Int32.reduceLE, Int32.reduceLT]
          repeat' (first | (refine zstep uM_homes [84, 177] (by decide) rfl ?_; simp only [uo, hO', h179, zm, bM_homes_0, bM_homes_15, bM_homes_27, bM_homes_31, bM_homes_52, bM_homes_58, bM_homes_133, bM_homes_134, bM_homes_169, bM_homes_170, bM_homes_220, bM_homes_226, bM_homes_257, bM_homes_263, bM_homes_272, bM_homes_278, e_const, e_lconst, e_iload, e_aload, e_lload, e_istore, e_astore, e_lstore, e_iinc, e_bin, e_un, e_div, e_mm, e_ladd, e_lcmp, e_dupi, e_dupr, e_dup2, e_popi, e_goto, e_if, e_icmp, e_sw, e_ret, e_zret0, e_zret1, e_zretb, bI_0, bI_1, bI_t, bI_f, i32_10, i32_01, e_lret, e_vret, e_getf, e_putf, e_iald, e_bald, e_aald, e_alen, e_iast, e_bast, e_aast, e_acopy, e_callS, e_callV, e_callI, e_obj, zg0, zg1, zg2, zg3, zg4, zg5, zg6, zg7, zg8, zg9, zg10, zg11, zg12, zg13, zg14, zg15, zg16, zg17, zg18, zg19, zg20, zg21, zg22, zg23, zt0, zt1, zt2, zt3, zt4, zt5, zt6, zt7, zt8, zt9, zt10, zt11, zt12, zt13, zt14, zt15, zt16, zt17, zt18, zt19, zt20, zt21, zt22, zt23, zsi, zsr, zsl, zsu, zs1, zs2, zs3, zs4, zs5, zs6, zs7, zs8, zs9, zs10, zs11, zs12, zs13, zp0, zp1, zp2, zp3, zp4, zp5, zp6, zm0, zm1, zm2, zm3, zm4, zty0, zty2, zty3, zty10, zty11, zkin_self, ztab_self, zup_app, bx_uu, Option.map_some, decide_eq_true_eq, if_true, if_false, ite_true, ite_false, true_and, and_true, Option.toList_some, Option.toList_none, List.cons_append, List.nil_append, reduceIte, List.length_cons, List.length_nil, Nat.reduceAdd, Nat.reduceLT, Nat.reduceEqDiff, Nat.reduceLeDiff, and_self, not_true_eq_false, not_false_eq_true, Int32.reduceSub, Int32.reduceAdd, Int32.reduceToNatClampNeg, Int32.reduceLE, Int32.reduceLT]) | (exact True.intro) | (refine ite_in ?_ ?_ <;> intro _) | (refine zsw_in ?_ ?_ <;> (first | (intro e0; subst e0) | intro _)) | (refine zsw_out ?_))
          exact hF
end HM
