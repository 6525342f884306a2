def fLose (v : Nat → Int32) : Nat → Int32 := fun k => if 23 ≤ k ∧ k < 221 then v (k + 22) else v k
def fPut (v : Nat → Int32) (m : Nat) : Nat → Int32 := fun k => if 23 + 22 * m ≤ k ∧ k < 45 + 22 * m then v (k - (23 + 22 * m)) else v k
/-- what is remembered: the row behind know(), remember() -/
def fKnow (v : Nat → Int32) (kn : Nat) : Nat → Int32 := fun k => if k = 22 then nI ((if kn = 10 then 9 else kn) + 1) else fPut (if kn = 10 then fLose v else v) (if kn = 10 then 9 else kn) k
theorem gL_v {np : Nat} {a kn : Nat} {v w : Nat → Int32} {M : zHp} (h : gL np a v kn M) (e1 : ∀ k, k < 22 → v k = w k) (e2 : ∀ i, i < kn → ∀ k, k < 22 → v (23 + 22 * i + k) = w (23 + 22 * i + k)) : gL np a w kn M := by
  obtain ⟨h0, h1, h2, π, h3, h4, h5, h6, h7⟩ := h
  exact ⟨h0, h1, gN_v h2 e1, π, h3, h4, h5, h6, fun i hi => gN_v (h7 i hi) (fun k hk => e2 i hi k hk)⟩
/-- the row of references, moved down up to i -/
def fRot (π : Nat → Nat) (i : Nat) : Nat → Option Nat := fun j => if j + 1 < i then some (20 + 4 * π (j + 1)) else some (20 + 4 * π j)
def fRotE (π : Nat → Nat) : Nat → Nat := fun j => if j < 9 then π (j + 1) else if j = 9 then π 0 else π j
section LB
variable {M : zHp} {N S d : Nat} {ty nh np hn : Nat} {tx hall er tp hh hm nw : Nat → Int32} {tax warm : Int32} {tr : Int64} {k0 k1 : Bool}
theorem sL_lose (hL : gL np 14 nw 10 M) : ∃ M', zRuns d mL_loseOldest [.ref 14] M N S (none, M', N, S) ∧ (∀ k, ¬ k = 14 → ¬ k = 19 → M' k = M k) ∧ gL np 14 (fLose nw) 9 M' := by
  obtain ⟨h0, h14, hst, π, h19, h4, h5, h6, h7⟩ := hL
  have hcls : ∀ i, i < 10 → ∃ fs, M (20 + 4 * π i) = .inr (6, fs) := by
    intro i hi
    obtain ⟨u, hu⟩ := h6 i hi
    exact ⟨_, hu.1⟩
  refine ⟨va_up (va_up M 19 (.inl (3, 10, .inr fun j => some (20 + 4 * fRotE π j)))) 14 (.inr (5, [.ref 15, .ref 19, .int (nI 9)])), ?_, fun k a b => by simp only [zup_app]; rw [if_neg a, if_neg b], ?_⟩
  rotate_left
  · have fr : ∀ k, ¬ k = 14 → ¬ k = 19 → va_up (va_up M 19 (.inl (3, 10, .inr fun j => some (20 + 4 * fRotE π j)))) 14 (.inr (5, [.ref 15, .ref 19, .int (nI 9)])) k = M k := fun k a b => by simp only [zup_app]; rw [if_neg a, if_neg b]
    have hin : ∀ i, i < 10 → ∃ j, j < 10 ∧ fRotE π i = π j := by
      intro i hi
      unfold fRotE
      by_cases c : i < 9
      · rw [if_pos c]; exact ⟨i + 1, by omega, rfl⟩
      · rw [if_neg c, if_pos (by omega)]; exact ⟨0, by omega, rfl⟩
    refine ⟨by omega, rfl, gN_v (gN_fr hst (fun k a b => fr k (by omega) (by omega))) (fun k hk => by unfold fLose; rw [if_neg (by omega)]), fRotE π, rfl, fun i hi => ?_, fun i j hi hj e => ?_, fun i hi => ?_, fun i hi => ?_⟩
    · obtain ⟨j, hj, e⟩ := hin i hi
      rw [e]
      exact h4 j hj
    · unfold fRotE at e
      by_cases ci : i < 9
      · by_cases cj : j < 9
        · rw [if_pos ci, if_pos cj] at e
          have := h5 _ _ (by omega) (by omega) e
          omega
        · rw [if_pos ci, if_neg cj, if_pos (by omega)] at e
          have := h5 _ _ (by omega) (by omega) e
          omega
      · by_cases cj : j < 9
        · rw [if_neg ci, if_pos (by omega), if_pos cj] at e
          have := h5 _ _ (by omega) (by omega) e
          omega
        · omega
    · obtain ⟨j, hj, e⟩ := hin i hi
      obtain ⟨u, hu⟩ := h6 j hj
      have := h4 j hj
      rw [e]
      exact ⟨u, gN_fr hu (fun k a b => fr k (by omega) (by omega))⟩
    · have e : fRotE π i = π (i + 1) := by unfold fRotE; rw [if_pos hi]
      rw [e]
      have := h4 (i + 1) (by omega)
      refine gN_v (gN_fr (h7 (i + 1) (by omega)) (fun k a b => fr k (by omega) (by omega))) (fun k hk => ?_)
      unfold fLose
      rw [if_pos (by omega)]
      congr 1
      omega
  have z0 : zix 0 10 = some 0 := by decide
  have z9 : zix 9 10 = some 9 := by decide
  have e1419 : ∀ i, (20 + 4 * π i = 19) = False := fun i => eq_false (by omega)
  refine zenter (n := 2) kL_loseOldest rfl rfl ?_
  repeat' (first | (refine zstep uL_loseOldest [9] (by decide) rfl ?_; simp only [h14, h19, z0, zrv, List.replicate, bL_loseOldest_0, bL_loseOldest_35, e_const, e_lconst, e_iload, e_aload, e_lload, e_istore, e_astore, e_lstore, e_iinc, e_bin, e_un, e_div, e_mm, e_ladd, e_lcmp, e_dupi, e_dupr, e_dup2, e_popi, e_goto, e_if, e_icmp, e_sw, e_ret, e_zret0, e_zret1, e_zretb, bI_0, bI_1, bI_t, bI_f, i32_10, i32_01, e_lret, e_vret, e_getf, e_putf, e_iald, e_bald, e_aald, e_alen, e_iast, e_bast, e_aast, e_acopy, e_callS, e_callV, e_callI, e_obj, zg0, zg1, zg2, zg3, zg4, zg5, zg6, zg7, zg8, zg9, zg10, zg11, zg12, zg13, zg14, zg15, zg16, zg17, zg18, zg19, zg20, zg21, zg22, zg23, zt0, zt1, zt2, zt3, zt4, zt5, zt6, zt7, zt8, zt9, zt10, zt11, zt12, zt13, zt14, zt15, zt16, zt17, zt18, zt19, zt20, zt21, zt22, zt23, zsi, zsr, zsl, zsu, zs1, zs2, zs3, zs4, zs5, zs6, zs7, zs8, zs9, zs10, zs11, zs12, zs13, zp0, zp1, zp2, zp3, zp4, zp5, zp6, zm0, zm1, zm2, zm3, zm4, zty0, zty2, zty3, zty10, zty11, zkin_self, ztab_self, zup_app, bx_uu, Option.map_some, decide_eq_true_eq, if_true, if_false, ite_true, ite_false, true_and, and_true, Option.toList_some, Option.toList_none, List.cons_append, List.nil_append, reduceIte, List.length_cons, List.length_nil, Nat.reduceAdd, Nat.reduceLT, Nat.reduceEqDiff, Nat.reduceLeDiff, and_self, not_true_eq_false, not_false_eq_true, Int32.reduceSub, Int32.reduceAdd, Int32.reduceToNatClampNeg, Int32.reduceLE, Int32.reduceLT]) | (exact True.intro) | (refine ite_in ?_ ?_ <;> intro _) | (refine zsw_in ?_ ?_ <;> (first | (intro e0; subst e0) | intro _)) | (refine zsw_out ?_))
  have key := dn_ind (n := 9) (P := fun i => zGo d mL_loseOldest 9 ([.ref 14, .ref (20 + 4 * π 0), .int (nI (i + 1))], [], va_up M 19 (.inl (3, 10, .inr (fRot π (i + 1)))), N, S) (none, va_up (va_up M 19 (.inl (3, 10, .inr fun j => some (20 + 4 * fRotE π j)))) 14 (.inr (5, [.ref 15, .ref 19, .int (nI 9)])), N, S)) ?_ ?_ 0 (Nat.zero_le _)
  · have e : va_up M 19 (.inl (3, 10, .inr (fRot π (0 + 1)))) = M := by
      funext k
      simp only [zup_app]
      by_cases c : k = 19
      · rw [if_pos c, c]
        have h19' : M 19 = _ := h19
        rw [h19']
        congr 4
      · rw [if_neg c]
    rw [e] at key
    exact key
  · refine tL_loseOldest_9 _ _ _ ?_
    obtain ⟨fs, hfs⟩ := hcls 0 (by omega)
    simp only [bL_loseOldest_9, show nI (9 + 1) = 10 by rfl, e_const, e_lconst, e_iload, e_aload, e_lload, e_istore, e_astore, e_lstore, e_iinc, e_bin, e_un, e_div, e_mm, e_ladd, e_lcmp, e_dupi, e_dupr, e_dup2, e_popi, e_goto, e_if, e_icmp, e_sw, e_ret, e_zret0, e_zret1, e_zretb, bI_0, bI_1, bI_t, bI_f, i32_10, i32_01, e_lret, e_vret, e_getf, e_putf, e_iald, e_bald, e_aald, e_alen, e_iast, e_bast, e_aast, e_acopy, e_callS, e_callV, e_callI, e_obj, zg0, zg1, zg2, zg3, zg4, zg5, zg6, zg7, zg8, zg9, zg10, zg11, zg12, zg13, zg14, zg15, zg16, zg17, zg18, zg19, zg20, zg21, zg22, zg23, zt0, zt1, zt2, zt3, zt4, zt5, zt6, zt7, zt8, zt9, zt10, zt11, zt12, zt13, zt14, zt15, zt16, zt17, zt18, zt19, zt20, zt21, zt22, zt23, zsi, zsr, zsl, zsu, zs1, zs2, zs3, zs4, zs5, zs6, zs7, zs8, zs9, zs10, zs11, zs12, zs13, zp0, zp1, zp2, zp3, zp4, zp5, zp6, zm0, zm1, zm2, zm3, zm4, zty0, zty2, zty3, zty10, zty11, zkin_self, ztab_self, zup_app, bx_uu, Option.map_some, decide_eq_true_eq, if_true, if_false, ite_true, ite_false, true_and, and_true, Option.toList_some, Option.toList_none, List.cons_append, List.nil_append, reduceIte, List.length_cons, List.length_nil, Nat.reduceAdd, Nat.reduceLT, Nat.reduceEqDiff, Nat.reduceLeDiff, and_self, not_true_eq_false, not_false_eq_true, Int32.reduceSub, Int32.reduceAdd, Int32.reduceToNatClampNeg, Int32.reduceLE, Int32.reduceLT]
    refine tL_loseOldest_35 _ _ _ ?_
    have e9 : va_up (fRot π 10) 9 (some (20 + 4 * π 0)) = fun j => some (20 + 4 * fRotE π j) := by
      funext j
      simp only [va_up, fRot, fRotE]
      by_cases c1 : j = 9
      · rw [if_pos c1, if_neg (by omega), if_pos c1]
      · rw [if_neg c1]
        by_cases c2 : j < 9
        · rw [if_pos (by omega), if_pos c2]
        · rw [if_neg (by omega), if_neg c2, if_neg c1]
    simp only [bL_loseOldest_35, h14, h19, z9, hfs, e1419, show zarr 3 6 = true by decide, show nI 10 - 1 = nI 9 by decide, e9, e_const, e_lconst, e_iload, e_aload, e_lload, e_istore, e_astore, e_lstore, e_iinc, e_bin, e_un, e_div, e_mm, e_ladd, e_lcmp, e_dupi, e_dupr, e_dup2, e_popi, e_goto, e_if, e_icmp, e_sw, e_ret, e_zret0, e_zret1, e_zretb, bI_0, bI_1, bI_t, bI_f, i32_10, i32_01, e_lret, e_vret, e_getf, e_putf, e_iald, e_bald, e_aald, e_alen, e_iast, e_bast, e_aast, e_acopy, e_callS, e_callV, e_callI, e_obj, zg0, zg1, zg2, zg3, zg4, zg5, zg6, zg7, zg8, zg9, zg10, zg11, zg12, zg13, zg14, zg15, zg16, zg17, zg18, zg19, zg20, zg21, zg22, zg23, zt0, zt1, zt2, zt3, zt4, zt5, zt6, zt7, zt8, zt9, zt10, zt11, zt12, zt13, zt14, zt15, zt16, zt17, zt18, zt19, zt20, zt21, zt22, zt23, zsi, zsr, zsl, zsu, zs1, zs2, zs3, zs4, zs5, zs6, zs7, zs8, zs9, zs10, zs11, zs12, zs13, zp0, zp1, zp2, zp3, zp4, zp5, zp6, zm0, zm1, zm2, zm3, zm4, zty0, zty2, zty3, zty10, zty11, zkin_self, ztab_self, zup_app, bx_uu, Option.map_some, decide_eq_true_eq, if_true, if_false, ite_true, ite_false, true_and, and_true, Option.toList_some, Option.toList_none, List.cons_append, List.nil_append, reduceIte, List.length_cons, List.length_nil, Nat.reduceAdd, Nat.reduceLT, Nat.reduceEqDiff, Nat.reduceLeDiff, and_self, not_true_eq_false, not_false_eq_true, Int32.reduceSub, Int32.reduceAdd, Int32.reduceToNatClampNeg, Int32.reduceLE, Int32.reduceLT]
  · intro i hi ih
    refine tL_loseOldest_9 _ _ _ ?_
    obtain ⟨fs, hfs⟩ := hcls (i + 1) (by omega)
    have z1 : zix (nI (i + 1)) 10 = some (i + 1) := zix_nI (by omega) (by decide)
    have z2 : zix (nI (i + 1) - 1) 10 = some i := by rw [nI_pred]; exact zix_nI (by omega) (by decide)
    have e2 : fRot π (i + 1) (i + 1) = some (20 + 4 * π (i + 1)) := by unfold fRot; rw [if_neg (by omega)]
    have e3 : va_up (fRot π (i + 1)) i (some (20 + 4 * π (i + 1))) = fRot π (i + 1 + 1) := by
      funext j
      simp only [va_up, fRot]
      by_cases c1 : j = i
      · rw [if_pos c1, if_pos (by omega), c1]
      · rw [if_neg c1]
        by_cases c2 : j + 1 < i + 1
        · rw [if_pos c2, if_pos (by omega)]
        · rw [if_neg c2, if_neg (by omega)]
    simp only [bL_loseOldest_9, show (10 ≤ nI (i + 1)) = False from eq_false (nI_ge (show i + 1 < 10 by omega) (by decide)), h14, z1, z2, e2, zrv, hfs, e1419, show zarr 3 6 = true by decide, e3, nI_1, e_const, e_lconst, e_iload, e_aload, e_lload, e_istore, e_astore, e_lstore, e_iinc, e_bin, e_un, e_div, e_mm, e_ladd, e_lcmp, e_dupi, e_dupr, e_dup2, e_popi, e_goto, e_if, e_icmp, e_sw, e_ret, e_zret0, e_zret1, e_zretb, bI_0, bI_1, bI_t, bI_f, i32_10, i32_01, e_lret, e_vret, e_getf, e_putf, e_iald, e_bald, e_aald, e_alen, e_iast, e_bast, e_aast, e_acopy, e_callS, e_callV, e_callI, e_obj, zg0, zg1, zg2, zg3, zg4, zg5, zg6, zg7, zg8, zg9, zg10, zg11, zg12, zg13, zg14, zg15, zg16, zg17, zg18, zg19, zg20, zg21, zg22, zg23, zt0, zt1, zt2, zt3, zt4, zt5, zt6, zt7, zt8, zt9, zt10, zt11, zt12, zt13, zt14, zt15, zt16, zt17, zt18, zt19, zt20, zt21, zt22, zt23, zsi, zsr, zsl, zsu, zs1, zs2, zs3, zs4, zs5, zs6, zs7, zs8, zs9, zs10, zs11, zs12, zs13, zp0, zp1, zp2, zp3, zp4, zp5, zp6, zm0, zm1, zm2, zm3, zm4, zty0, zty2, zty3, zty10, zty11, zkin_self, ztab_self, zup_app, bx_uu, Option.map_some, decide_eq_true_eq, if_true, if_false, ite_true, ite_false, true_and, and_true, Option.toList_some, Option.toList_none, List.cons_append, List.nil_append, reduceIte, List.length_cons, List.length_nil, Nat.reduceAdd, Nat.reduceLT, Nat.reduceEqDiff, Nat.reduceLeDiff, and_self, not_true_eq_false, not_false_eq_true, Int32.reduceSub, Int32.reduceAdd, Int32.reduceToNatClampNeg, Int32.reduceLE, Int32.reduceLT]
    exact ih
theorem sL_put {kn : Nat} (hL : gL np 14 nw kn M) (hk : kn < 10) : ∃ M', zGo (d + 1) mL_remember 13 ([.ref 14], [], M, N, S) (none, M', N, S) ∧ (∀ k, ¬ k = 14 → ¬ (20 ≤ k ∧ k ≤ 59) → M' k = M k) ∧ gL np 14 (fPut nw kn) (kn + 1) M' := by
  obtain ⟨h0, h14, hst, π, h19, h4, h5, h6, h7⟩ := hL
  obtain ⟨u, hu⟩ := h6 kn hk
  have hπ := h4 kn hk
  obtain ⟨M1, r1, e1, g1⟩ := sN_become (d := d) (N := N) (S := S) (a := 20 + 4 * π kn) (b := 15) hu hst (by omega) (by omega) (by omega)
  have h14' : M1 14 = .inr (5, [.ref 15, .ref 19, .int (nI kn)]) := (e1 14 (by omega)).trans h14
  refine ⟨va_up M1 14 (.inr (5, [.ref 15, .ref 19, .int (nI (kn + 1))])), ?_, fun k a b => by simp only [zup_app]; rw [if_neg a]; exact e1 k (by omega), ?_⟩
  · refine tL_remember_13 _ _ _ ?_
    have z : zix (nI kn) 10 = some kn := zix_nI hk (by decide)
    simp only [bL_remember_13, h14, h19, z, zrv, hu.1, e_const, e_lconst, e_iload, e_aload, e_lload, e_istore, e_astore, e_lstore, e_iinc, e_bin, e_un, e_div, e_mm, e_ladd, e_lcmp, e_dupi, e_dupr, e_dup2, e_popi, e_goto, e_if, e_icmp, e_sw, e_ret, e_zret0, e_zret1, e_zretb, bI_0, bI_1, bI_t, bI_f, i32_10, i32_01, e_lret, e_vret, e_getf, e_putf, e_iald, e_bald, e_aald, e_alen, e_iast, e_bast, e_aast, e_acopy, e_callS, e_callV, e_callI, e_obj, zg0, zg1, zg2, zg3, zg4, zg5, zg6, zg7, zg8, zg9, zg10, zg11, zg12, zg13, zg14, zg15, zg16, zg17, zg18, zg19, zg20, zg21, zg22, zg23, zt0, zt1, zt2, zt3, zt4, zt5, zt6, zt7, zt8, zt9, zt10, zt11, zt12, zt13, zt14, zt15, zt16, zt17, zt18, zt19, zt20, zt21, zt22, zt23, zsi, zsr, zsl, zsu, zs1, zs2, zs3, zs4, zs5, zs6, zs7, zs8, zs9, zs10, zs11, zs12, zs13, zp0, zp1, zp2, zp3, zp4, zp5, zp6, zm0, zm1, zm2, zm3, zm4, zty0, zty2, zty3, zty10, zty11, zkin_self, ztab_self, zup_app, bx_uu, Option.map_some, decide_eq_true_eq, if_true, if_false, ite_true, ite_false, true_and, and_true, Option.toList_some, Option.toList_none, List.cons_append, List.nil_append, reduceIte, List.length_cons, List.length_nil, Nat.reduceAdd, Nat.reduceLT, Nat.reduceEqDiff, Nat.reduceLeDiff, and_self, not_true_eq_false, not_false_eq_true, Int32.reduceSub, Int32.reduceAdd, Int32.reduceToNatClampNeg, Int32.reduceLE, Int32.reduceLT]
    refine ⟨_, r1, ?_⟩
    simp only [h14', nI_1, e_const, e_lconst, e_iload, e_aload, e_lload, e_istore, e_astore, e_lstore, e_iinc, e_bin, e_un, e_div, e_mm, e_ladd, e_lcmp, e_dupi, e_dupr, e_dup2, e_popi, e_goto, e_if, e_icmp, e_sw, e_ret, e_zret0, e_zret1, e_zretb, bI_0, bI_1, bI_t, bI_f, i32_10, i32_01, e_lret, e_vret, e_getf, e_putf, e_iald, e_bald, e_aald, e_alen, e_iast, e_bast, e_aast, e_acopy, e_callS, e_callV, e_callI, e_obj, zg0, zg1, zg2, zg3, zg4, zg5, zg6, zg7, zg8, zg9, zg10, zg11, zg12, zg13, zg14, zg15, zg16, zg17, zg18, zg19, zg20, zg21, zg22, zg23, zt0, zt1, zt2, zt3, zt4, zt5, zt6, zt7, zt8, zt9, zt10, zt11, zt12, zt13, zt14, zt15, zt16, zt17, zt18, zt19, zt20, zt21, zt22, zt23, zsi, zsr, zsl, zsu, zs1, zs2, zs3, zs4, zs5, zs6, zs7, zs8, zs9, zs10, zs11, zs12, zs13, zp0, zp1, zp2, zp3, zp4, zp5, zp6, zm0, zm1, zm2, zm3, zm4, zty0, zty2, zty3, zty10, zty11, zkin_self, ztab_self, zup_app, bx_uu, Option.map_some, decide_eq_true_eq, if_true, if_false, ite_true, ite_false, true_and, and_true, Option.toList_some, Option.toList_none, List.cons_append, List.nil_append, reduceIte, List.length_cons, List.length_nil, Nat.reduceAdd, Nat.reduceLT, Nat.reduceEqDiff, Nat.reduceLeDiff, and_self, not_true_eq_false, not_false_eq_true, Int32.reduceSub, Int32.reduceAdd, Int32.reduceToNatClampNeg, Int32.reduceLE, Int32.reduceLT]
  · have fr : ∀ k, ¬ k = 14 → ¬ (20 + 4 * π kn ≤ k ∧ k ≤ 20 + 4 * π kn + 3) → va_up M1 14 (.inr (5, [.ref 15, .ref 19, .int (nI (kn + 1))])) k = M k := fun k a b => by simp only [zup_app]; rw [if_neg a]; exact e1 k b
    refine ⟨by omega, rfl, gN_v (gN_fr hst (fun k a b => fr k (by omega) (by omega))) (fun k hk => by unfold fPut; rw [if_neg (by omega)]), π, (fr 19 (by omega) (by omega)).trans h19, h4, h5, fun i hi => ?_, fun i hi => ?_⟩
    · by_cases c : i = kn
      · subst c
        exact ⟨_, gN_fr g1 (fun k a b => by simp only [zup_app]; rw [if_neg (by omega)])⟩
      · obtain ⟨u2, hu2⟩ := h6 i hi
        have : π i ≠ π kn := fun e => c (h5 i kn hi hk e)
        exact ⟨u2, gN_fr hu2 (fun k a b => fr k (by omega) (by omega))⟩
    · by_cases c : i = kn
      · subst c
        refine gN_v (gN_fr g1 (fun k a b => by simp only [zup_app]; rw [if_neg (by omega)])) (fun k hk => ?_)
        unfold fPut
        rw [if_pos (by omega)]
        congr 1
        omega
      · have : π i ≠ π kn := fun e => c (h5 i kn (by omega) hk e)
        refine gN_v (gN_fr (h7 i (by omega)) (fun k a b => fr k (by omega) (by omega))) (fun k hk => ?_)
        unfold fPut
        rw [if_neg (by omega)]
theorem sL_remember {kn : Nat} (hL : gL np 14 nw kn M) : ∃ M', zRuns (d + 1) mL_remember [.ref 14] M N S (none, M', N, S) ∧ (∀ k, ¬ k = 14 → ¬ (19 ≤ k ∧ k ≤ 59) → M' k = M k) ∧ gL np 14 (fKnow nw kn) ((if kn = 10 then 9 else kn) + 1) M' := by
  have h0 := hL.1
  have h14 := hL.2.1
  by_cases c : kn = 10
  · subst c
    obtain ⟨M1, r1, e1, g1⟩ := sL_lose (d := d) (N := N) (S := S) hL
    obtain ⟨M2, r2, e2, g2⟩ := sL_put (d := d) (N := N) (S := S) g1 (by omega)
    refine ⟨M2, ?_, fun k a b => (e2 k a (by omega)).trans (e1 k a (by omega)), gL_v g2 (fun k hk => ?_) (fun i hi k hk => ?_)⟩
    · refine zenter (n := 0) kL_remember rfl rfl ?_
      refine tL_remember_0 _ _ _ ?_
      simp only [bL_remember_0, h14, show nI 10 = 10 by rfl, ne_eq, e_const, e_lconst, e_iload, e_aload, e_lload, e_istore, e_astore, e_lstore, e_iinc, e_bin, e_un, e_div, e_mm, e_ladd, e_lcmp, e_dupi, e_dupr, e_dup2, e_popi, e_goto, e_if, e_icmp, e_sw, e_ret, e_zret0, e_zret1, e_zretb, bI_0, bI_1, bI_t, bI_f, i32_10, i32_01, e_lret, e_vret, e_getf, e_putf, e_iald, e_bald, e_aald, e_alen, e_iast, e_bast, e_aast, e_acopy, e_callS, e_callV, e_callI, e_obj, zg0, zg1, zg2, zg3, zg4, zg5, zg6, zg7, zg8, zg9, zg10, zg11, zg12, zg13, zg14, zg15, zg16, zg17, zg18, zg19, zg20, zg21, zg22, zg23, zt0, zt1, zt2, zt3, zt4, zt5, zt6, zt7, zt8, zt9, zt10, zt11, zt12, zt13, zt14, zt15, zt16, zt17, zt18, zt19, zt20, zt21, zt22, zt23, zsi, zsr, zsl, zsu, zs1, zs2, zs3, zs4, zs5, zs6, zs7, zs8, zs9, zs10, zs11, zs12, zs13, zp0, zp1, zp2, zp3, zp4, zp5, zp6, zm0, zm1, zm2, zm3, zm4, zty0, zty2, zty3, zty10, zty11, zkin_self, ztab_self, zup_app, bx_uu, Option.map_some, decide_eq_true_eq, if_true, if_false, ite_true, ite_false, true_and, and_true, Option.toList_some, Option.toList_none, List.cons_append, List.nil_append, reduceIte, List.length_cons, List.length_nil, Nat.reduceAdd, Nat.reduceLT, Nat.reduceEqDiff, Nat.reduceLeDiff, and_self, not_true_eq_false, not_false_eq_true, Int32.reduceSub, Int32.reduceAdd, Int32.reduceToNatClampNeg, Int32.reduceLE, Int32.reduceLT]
      refine ⟨_, r1, ?_⟩
      simp only [e_const, e_lconst, e_iload, e_aload, e_lload, e_istore, e_astore, e_lstore, e_iinc, e_bin, e_un, e_div, e_mm, e_ladd, e_lcmp, e_dupi, e_dupr, e_dup2, e_popi, e_goto, e_if, e_icmp, e_sw, e_ret, e_zret0, e_zret1, e_zretb, bI_0, bI_1, bI_t, bI_f, i32_10, i32_01, e_lret, e_vret, e_getf, e_putf, e_iald, e_bald, e_aald, e_alen, e_iast, e_bast, e_aast, e_acopy, e_callS, e_callV, e_callI, e_obj, zg0, zg1, zg2, zg3, zg4, zg5, zg6, zg7, zg8, zg9, zg10, zg11, zg12, zg13, zg14, zg15, zg16, zg17, zg18, zg19, zg20, zg21, zg22, zg23, zt0, zt1, zt2, zt3, zt4, zt5, zt6, zt7, zt8, zt9, zt10, zt11, zt12, zt13, zt14, zt15, zt16, zt17, zt18, zt19, zt20, zt21, zt22, zt23, zsi, zsr, zsl, zsu, zs1, zs2, zs3, zs4, zs5, zs6, zs7, zs8, zs9, zs10, zs11, zs12, zs13, zp0, zp1, zp2, zp3, zp4, zp5, zp6, zm0, zm1, zm2, zm3, zm4, zty0, zty2, zty3, zty10, zty11, zkin_self, ztab_self, zup_app, bx_uu, Option.map_some, decide_eq_true_eq, if_true, if_false, ite_true, ite_false, true_and, and_true, Option.toList_some, Option.toList_none, List.cons_append, List.nil_append, reduceIte, List.length_cons, List.length_nil, Nat.reduceAdd, Nat.reduceLT, Nat.reduceEqDiff, Nat.reduceLeDiff, and_self, not_true_eq_false, not_false_eq_true, Int32.reduceSub, Int32.reduceAdd, Int32.reduceToNatClampNeg, Int32.reduceLE, Int32.reduceLT]
      exact r2
    · unfold fKnow
      rw [if_neg (by omega), if_pos rfl, if_pos rfl]
    · unfold fKnow
      rw [if_neg (by omega), if_pos rfl, if_pos rfl]
  · obtain ⟨M2, r2, e2, g2⟩ := sL_put (d := d) (N := N) (S := S) hL (by omega)
    rw [if_neg c]
    refine ⟨M2, ?_, fun k a b => e2 k a (by omega), gL_v g2 (fun k hk => ?_) (fun i hi k hk => ?_)⟩
    · refine zenter (n := 0) kL_remember rfl rfl ?_
      refine tL_remember_0 _ _ _ ?_
      simp only [bL_remember_0, h14, nI_eqN (n := kn) (x := 10) 10 rfl (by omega), c, e_const, e_lconst, e_iload, e_aload, e_lload, e_istore, e_astore, e_lstore, e_iinc, e_bin, e_un, e_div, e_mm, e_ladd, e_lcmp, e_dupi, e_dupr, e_dup2, e_popi, e_goto, e_if, e_icmp, e_sw, e_ret, e_zret0, e_zret1, e_zretb, bI_0, bI_1, bI_t, bI_f, i32_10, i32_01, e_lret, e_vret, e_getf, e_putf, e_iald, e_bald, e_aald, e_alen, e_iast, e_bast, e_aast, e_acopy, e_callS, e_callV, e_callI, e_obj, zg0, zg1, zg2, zg3, zg4, zg5, zg6, zg7, zg8, zg9, zg10, zg11, zg12, zg13, zg14, zg15, zg16, zg17, zg18, zg19, zg20, zg21, zg22, zg23, zt0, zt1, zt2, zt3, zt4, zt5, zt6, zt7, zt8, zt9, zt10, zt11, zt12, zt13, zt14, zt15, zt16, zt17, zt18, zt19, zt20, zt21, zt22, zt23, zsi, zsr, zsl, zsu, zs1, zs2, zs3, zs4, zs5, zs6, zs7, zs8, zs9, zs10, zs11, zs12, zs13, zp0, zp1, zp2, zp3, zp4, zp5, zp6, zm0, zm1, zm2, zm3, zm4, zty0, zty2, zty3, zty10, zty11, zkin_self, ztab_self, zup_app, bx_uu, Option.map_some, decide_eq_true_eq, if_true, if_false, ite_true, ite_false, true_and, and_true, Option.toList_some, Option.toList_none, List.cons_append, List.nil_append, reduceIte, List.length_cons, List.length_nil, Nat.reduceAdd, Nat.reduceLT, Nat.reduceEqDiff, Nat.reduceLeDiff, and_self, not_true_eq_false, not_false_eq_true, Int32.reduceSub, Int32.reduceAdd, Int32.reduceToNatClampNeg, Int32.reduceLE, Int32.reduceLT]
      exact r2
    · unfold fKnow
      rw [if_neg (by omega), if_neg c, if_neg c]
    · unfold fKnow
      rw [if_neg (by omega), if_neg c, if_neg c]
theorem sL_forgo {kn : Nat} (hL : gL np 14 nw (kn + 1) M) : ∃ M', zRuns (d + 1) mL_forgo [.ref 14] M N S (none, M', N, S) ∧ (∀ k, ¬ (14 ≤ k ∧ k ≤ 18) → M' k = M k) ∧ gL np 14 (fun k => if k < 22 then nw (23 + 22 * kn + k) else nw k) kn M' ∧ M' 14 = .inr (5, [.ref 15, .ref 19, .int (nI kn)]) := by
  obtain ⟨h0, h14, hst, π, h19, h4, h5, h6, h7⟩ := hL
  have hπ := h4 kn (by omega)
  have hu := h7 kn (by omega)
  have fr0 : ∀ k, ¬ k = 14 → va_up M 14 (.inr (5, [.ref 15, .ref 19, .int (nI kn)])) k = M k := fun k a => by simp only [zup_app]; rw [if_neg a]
  obtain ⟨M1, r1, e1, g1⟩ := sN_become (d := d) (N := N) (S := S) (a := 15) (b := 20 + 4 * π kn) (gN_fr hst (fun k a b => fr0 k (by omega))) (gN_fr hu (fun k a b => fr0 k (by omega))) (by omega) (by omega) (by omega)
  have fr : ∀ k, ¬ (14 ≤ k ∧ k ≤ 18) → M1 k = M k := fun k a => (e1 k (by omega)).trans (fr0 k (by omega))
  refine ⟨M1, ?_, fr, ⟨by omega, (e1 14 (by omega)).trans rfl, gN_v g1 (fun k hk => by rw [if_pos hk]), π, (fr 19 (by omega)).trans h19, h4, h5, fun i hi => ?_, fun i hi => ?_⟩, (e1 14 (by omega)).trans rfl⟩
  · refine zenter (n := 0) kL_forgo rfl rfl ?_
    refine tL_forgo_0 _ _ _ ?_
    have z : zix (nI kn) 10 = some kn := zix_nI (by omega) (by decide)
    simp only [bL_forgo_0, h14, show (nI (kn + 1) ≤ 0) = False from eq_false (nI_nle (by omega) (by omega)), nI_pred, h19, z, zrv, hst.1, e_const, e_lconst, e_iload, e_aload, e_lload, e_istore, e_astore, e_lstore, e_iinc, e_bin, e_un, e_div, e_mm, e_ladd, e_lcmp, e_dupi, e_dupr, e_dup2, e_popi, e_goto, e_if, e_icmp, e_sw, e_ret, e_zret0, e_zret1, e_zretb, bI_0, bI_1, bI_t, bI_f, i32_10, i32_01, e_lret, e_vret, e_getf, e_putf, e_iald, e_bald, e_aald, e_alen, e_iast, e_bast, e_aast, e_acopy, e_callS, e_callV, e_callI, e_obj, zg0, zg1, zg2, zg3, zg4, zg5, zg6, zg7, zg8, zg9, zg10, zg11, zg12, zg13, zg14, zg15, zg16, zg17, zg18, zg19, zg20, zg21, zg22, zg23, zt0, zt1, zt2, zt3, zt4, zt5, zt6, zt7, zt8, zt9, zt10, zt11, zt12, zt13, zt14, zt15, zt16, zt17, zt18, zt19, zt20, zt21, zt22, zt23, zsi, zsr, zsl, zsu, zs1, zs2, zs3, zs4, zs5, zs6, zs7, zs8, zs9, zs10, zs11, zs12, zs13, zp0, zp1, zp2, zp3, zp4, zp5, zp6, zm0, zm1, zm2, zm3, zm4, zty0, zty2, zty3, zty10, zty11, zkin_self, ztab_self, zup_app, bx_uu, Option.map_some, decide_eq_true_eq, if_true, if_false, ite_true, ite_false, true_and, and_true, Option.toList_some, Option.toList_none, List.cons_append, List.nil_append, reduceIte, List.length_cons, List.length_nil, Nat.reduceAdd, Nat.reduceLT, Nat.reduceEqDiff, Nat.reduceLeDiff, and_self, not_true_eq_false, not_false_eq_true, Int32.reduceSub, Int32.reduceAdd, Int32.reduceToNatClampNeg, Int32.reduceLE, Int32.reduceLT]
    refine ⟨_, r1, ?_⟩
    repeat' (first | (refine zstep uL_forgo [] (by decide) rfl ?_; simp only [bL_forgo_0, bL_forgo_33, e_const, e_lconst, e_iload, e_aload, e_lload, e_istore, e_astore, e_lstore, e_iinc, e_bin, e_un, e_div, e_mm, e_ladd, e_lcmp, e_dupi, e_dupr, e_dup2, e_popi, e_goto, e_if, e_icmp, e_sw, e_ret, e_zret0, e_zret1, e_zretb, bI_0, bI_1, bI_t, bI_f, i32_10, i32_01, e_lret, e_vret, e_getf, e_putf, e_iald, e_bald, e_aald, e_alen, e_iast, e_bast, e_aast, e_acopy, e_callS, e_callV, e_callI, e_obj, zg0, zg1, zg2, zg3, zg4, zg5, zg6, zg7, zg8, zg9, zg10, zg11, zg12, zg13, zg14, zg15, zg16, zg17, zg18, zg19, zg20, zg21, zg22, zg23, zt0, zt1, zt2, zt3, zt4, zt5, zt6, zt7, zt8, zt9, zt10, zt11, zt12, zt13, zt14, zt15, zt16, zt17, zt18, zt19, zt20, zt21, zt22, zt23, zsi, zsr, zsl, zsu, zs1, zs2, zs3, zs4, zs5, zs6, zs7, zs8, zs9, zs10, zs11, zs12, zs13, zp0, zp1, zp2, zp3, zp4, zp5, zp6, zm0, zm1, zm2, zm3, zm4, zty0, zty2, zty3, zty10, zty11, zkin_self, ztab_self, zup_app, bx_uu, Option.map_some, decide_eq_true_eq, if_true, if_false, ite_true, ite_false, true_and, and_true, Option.toList_some, Option.toList_none, List.cons_append, List.nil_append, reduceIte, List.length_cons, List.length_nil, Nat.reduceAdd, Nat.reduceLT, Nat.reduceEqDiff, Nat.reduceLeDiff, and_self, not_true_eq_false, not_false_eq_true, Int32.reduceSub, Int32.reduceAdd, Int32.reduceToNatClampNeg, Int32.reduceLE, Int32.reduceLT]) | (exact True.intro) | (refine ite_in ?_ ?_ <;> intro _) | (refine zsw_in ?_ ?_ <;> (first | (intro e0; subst e0) | intro _)) | (refine zsw_out ?_))
  · obtain ⟨u2, hu2⟩ := h6 i hi
    have := h4 i hi
    exact ⟨u2, gN_fr hu2 (fun k a b => fr k (by omega))⟩
  · have := h4 i (by omega)
    refine gN_v (gN_fr (h7 i (by omega)) (fun k a b => fr k (by omega))) (fun k hk => ?_)
    simp only [if_neg (show ¬ 23 + 22 * i + k < 22 by omega)]
theorem sL_become {a b ka kb : Nat} {u v : Nat → Int32} (ha : gL np a u ka M) (hb : gL np b v kb M) (h1 : 1 ≤ a) (h2 : 1 ≤ b) (hab : a + 46 ≤ b ∨ b + 46 ≤ a) : ∃ M', zRuns (d + 1) mL_become [.ref a, .ref b] M N S (none, M', N, S) ∧ (∀ k, ¬ (a ≤ k ∧ k ≤ a + 45) → M' k = M k) ∧ gL np a v kb M' := by
  obtain ⟨a0, a1, a2, πa, a3, a4, a5, a6, a7⟩ := ha
  obtain ⟨b0, b1, b2, πb, b3, b4, b5, b6, b7⟩ := hb
  have loop : ∀ i, i ≤ kb → ∀ Mi : zHp, Mi a = .inr (5, [.ref (a + 1), .ref (a + 5), .int (nI ka)]) → Mi (a + 5) = .inl (3, 10, .inr fun j => some (a + 6 + 4 * πa j)) → gN np (a + 1) v Mi → (∀ j, j < 10 → ∃ w, gN np (a + 6 + 4 * πa j) w Mi) → (∀ j, j < i → gN np (a + 6 + 4 * πa j) (fun k => v (23 + 22 * j + k)) Mi) → (∀ k, ¬ (a ≤ k ∧ k ≤ a + 45) → Mi k = M k) →
      ∃ M', zGo (d + 1) mL_become 13 ([.ref a, .ref b, .int (nI i)], [], Mi, N, S) (none, M', N, S) ∧ (∀ k, ¬ (a ≤ k ∧ k ≤ a + 45) → M' k = M k) ∧ gL np a v kb M' := by
    refine dn_ind (n := kb) ?_ ?_
    · intro Mi m1 m2 m3 m4 m5 fr
      have hb' : Mi b = .inr (5, [.ref (b + 1), .ref (b + 5), .int (nI kb)]) := (fr b (by omega)).trans b1
      refine ⟨va_up Mi a (.inr (5, [.ref (a + 1), .ref (a + 5), .int (nI kb)])), ?_, fun k hk => by simp only [zup_app]; rw [if_neg (by omega)]; exact fr k hk, ?_⟩
      · refine tL_become_13 _ _ _ ?_
        simp only [bL_become_13, hb', show (nI kb ≤ nI kb) = True from eq_true (nI_le (Nat.le_refl _) (by omega)), e_const, e_lconst, e_iload, e_aload, e_lload, e_istore, e_astore, e_lstore, e_iinc, e_bin, e_un, e_div, e_mm, e_ladd, e_lcmp, e_dupi, e_dupr, e_dup2, e_popi, e_goto, e_if, e_icmp, e_sw, e_ret, e_zret0, e_zret1, e_zretb, bI_0, bI_1, bI_t, bI_f, i32_10, i32_01, e_lret, e_vret, e_getf, e_putf, e_iald, e_bald, e_aald, e_alen, e_iast, e_bast, e_aast, e_acopy, e_callS, e_callV, e_callI, e_obj, zg0, zg1, zg2, zg3, zg4, zg5, zg6, zg7, zg8, zg9, zg10, zg11, zg12, zg13, zg14, zg15, zg16, zg17, zg18, zg19, zg20, zg21, zg22, zg23, zt0, zt1, zt2, zt3, zt4, zt5, zt6, zt7, zt8, zt9, zt10, zt11, zt12, zt13, zt14, zt15, zt16, zt17, zt18, zt19, zt20, zt21, zt22, zt23, zsi, zsr, zsl, zsu, zs1, zs2, zs3, zs4, zs5, zs6, zs7, zs8, zs9, zs10, zs11, zs12, zs13, zp0, zp1, zp2, zp3, zp4, zp5, zp6, zm0, zm1, zm2, zm3, zm4, zty0, zty2, zty3, zty10, zty11, zkin_self, ztab_self, zup_app, bx_uu, Option.map_some, decide_eq_true_eq, if_true, if_false, ite_true, ite_false, true_and, and_true, Option.toList_some, Option.toList_none, List.cons_append, List.nil_append, reduceIte, List.length_cons, List.length_nil, Nat.reduceAdd, Nat.reduceLT, Nat.reduceEqDiff, Nat.reduceLeDiff, and_self, not_true_eq_false, not_false_eq_true, Int32.reduceSub, Int32.reduceAdd, Int32.reduceToNatClampNeg, Int32.reduceLE, Int32.reduceLT]
        refine tL_become_42 _ _ _ ?_
        simp only [bL_become_42, hb', m1, e_const, e_lconst, e_iload, e_aload, e_lload, e_istore, e_astore, e_lstore, e_iinc, e_bin, e_un, e_div, e_mm, e_ladd, e_lcmp, e_dupi, e_dupr, e_dup2, e_popi, e_goto, e_if, e_icmp, e_sw, e_ret, e_zret0, e_zret1, e_zretb, bI_0, bI_1, bI_t, bI_f, i32_10, i32_01, e_lret, e_vret, e_getf, e_putf, e_iald, e_bald, e_aald, e_alen, e_iast, e_bast, e_aast, e_acopy, e_callS, e_callV, e_callI, e_obj, zg0, zg1, zg2, zg3, zg4, zg5, zg6, zg7, zg8, zg9, zg10, zg11, zg12, zg13, zg14, zg15, zg16, zg17, zg18, zg19, zg20, zg21, zg22, zg23, zt0, zt1, zt2, zt3, zt4, zt5, zt6, zt7, zt8, zt9, zt10, zt11, zt12, zt13, zt14, zt15, zt16, zt17, zt18, zt19, zt20, zt21, zt22, zt23, zsi, zsr, zsl, zsu, zs1, zs2, zs3, zs4, zs5, zs6, zs7, zs8, zs9, zs10, zs11, zs12, zs13, zp0, zp1, zp2, zp3, zp4, zp5, zp6, zm0, zm1, zm2, zm3, zm4, zty0, zty2, zty3, zty10, zty11, zkin_self, ztab_self, zup_app, bx_uu, Option.map_some, decide_eq_true_eq, if_true, if_false, ite_true, ite_false, true_and, and_true, Option.toList_some, Option.toList_none, List.cons_append, List.nil_append, reduceIte, List.length_cons, List.length_nil, Nat.reduceAdd, Nat.reduceLT, Nat.reduceEqDiff, Nat.reduceLeDiff, and_self, not_true_eq_false, not_false_eq_true, Int32.reduceSub, Int32.reduceAdd, Int32.reduceToNatClampNeg, Int32.reduceLE, Int32.reduceLT]
      · have f2 : ∀ k, ¬ k = a → va_up Mi a (.inr (5, [.ref (a + 1), .ref (a + 5), .int (nI kb)])) k = Mi k := fun k hk => by simp only [zup_app]; rw [if_neg hk]
        refine ⟨b0, by simp only [zup_app, if_pos], gN_fr m3 (fun k a b => f2 k (by omega)), πa, (f2 (a + 5) (by omega)).trans m2, a4, a5, fun i hi => ?_, fun i hi => ?_⟩
        · obtain ⟨w, hw⟩ := m4 i hi
          exact ⟨w, gN_fr hw (fun k a b => f2 k (by omega))⟩
        · exact gN_fr (m5 i hi) (fun k a b => f2 k (by omega))
    · intro i hi ih Mi m1 m2 m3 m4 m5 fr
      have hb' : Mi b = .inr (5, [.ref (b + 1), .ref (b + 5), .int (nI kb)]) := (fr b (by omega)).trans b1
      have hb5 : Mi (b + 5) = .inl (3, 10, .inr fun j => some (b + 6 + 4 * πb j)) := (fr (b + 5) (by omega)).trans b3
      have i10 : i < 10 := by omega
      have hpb := b4 i i10
      have hpa := a4 i i10
      obtain ⟨w, hw⟩ := m4 i i10
      have hbn : gN np (b + 6 + 4 * πb i) (fun k => v (23 + 22 * i + k)) Mi := gN_fr (b7 i hi) (fun k x y => fr k (by omega))
      obtain ⟨M1, r1, e1, g1⟩ := sN_become (d := d) (N := N) (S := S) hw hbn (by omega) (by omega) (by omega)
      obtain ⟨M', r2, e2, g2⟩ := ih M1 ((e1 a (by omega)).trans m1) ((e1 (a + 5) (by omega)).trans m2) (gN_fr m3 (fun k x y => e1 k (by omega))) (fun j hj => by
        by_cases c : j = i
        · subst c
          exact ⟨_, g1⟩
        · obtain ⟨w2, hw2⟩ := m4 j hj
          have : πa j ≠ πa i := fun e => c (a5 j i hj i10 e)
          exact ⟨w2, gN_fr hw2 (fun k x y => e1 k (by omega))⟩) (fun j hj => by
        by_cases c : j = i
        · subst c
          exact g1
        · have : πa j ≠ πa i := fun e => c (a5 j i (by omega) i10 e)
          exact gN_fr (m5 j (by omega)) (fun k x y => e1 k (by omega))) (fun k hk => (e1 k (by omega)).trans (fr k hk))
      refine ⟨M', ?_, e2, g2⟩
      refine tL_become_13 _ _ _ ?_
      have z : zix (nI i) 10 = some i := zix_nI i10 (by decide)
      simp only [bL_become_13, hb', hb5, m1, m2, z, zrv, hw.1, show (nI kb ≤ nI i) = False from eq_false (nI_ge hi (by omega)), e_const, e_lconst, e_iload, e_aload, e_lload, e_istore, e_astore, e_lstore, e_iinc, e_bin, e_un, e_div, e_mm, e_ladd, e_lcmp, e_dupi, e_dupr, e_dup2, e_popi, e_goto, e_if, e_icmp, e_sw, e_ret, e_zret0, e_zret1, e_zretb, bI_0, bI_1, bI_t, bI_f, i32_10, i32_01, e_lret, e_vret, e_getf, e_putf, e_iald, e_bald, e_aald, e_alen, e_iast, e_bast, e_aast, e_acopy, e_callS, e_callV, e_callI, e_obj, zg0, zg1, zg2, zg3, zg4, zg5, zg6, zg7, zg8, zg9, zg10, zg11, zg12, zg13, zg14, zg15, zg16, zg17, zg18, zg19, zg20, zg21, zg22, zg23, zt0, zt1, zt2, zt3, zt4, zt5, zt6, zt7, zt8, zt9, zt10, zt11, zt12, zt13, zt14, zt15, zt16, zt17, zt18, zt19, zt20, zt21, zt22, zt23, zsi, zsr, zsl, zsu, zs1, zs2, zs3, zs4, zs5, zs6, zs7, zs8, zs9, zs10, zs11, zs12, zs13, zp0, zp1, zp2, zp3, zp4, zp5, zp6, zm0, zm1, zm2, zm3, zm4, zty0, zty2, zty3, zty10, zty11, zkin_self, ztab_self, zup_app, bx_uu, Option.map_some, decide_eq_true_eq, if_true, if_false, ite_true, ite_false, true_and, and_true, Option.toList_some, Option.toList_none, List.cons_append, List.nil_append, reduceIte, List.length_cons, List.length_nil, Nat.reduceAdd, Nat.reduceLT, Nat.reduceEqDiff, Nat.reduceLeDiff, and_self, not_true_eq_false, not_false_eq_true, Int32.reduceSub, Int32.reduceAdd, Int32.reduceToNatClampNeg, Int32.reduceLE, Int32.reduceLT]
      refine ⟨_, r1, ?_⟩
      simp only [nI_1, e_const, e_lconst, e_iload, e_aload, e_lload, e_istore, e_astore, e_lstore, e_iinc, e_bin, e_un, e_div, e_mm, e_ladd, e_lcmp, e_dupi, e_dupr, e_dup2, e_popi, e_goto, e_if, e_icmp, e_sw, e_ret, e_zret0, e_zret1, e_zretb, bI_0, bI_1, bI_t, bI_f, i32_10, i32_01, e_lret, e_vret, e_getf, e_putf, e_iald, e_bald, e_aald, e_alen, e_iast, e_bast, e_aast, e_acopy, e_callS, e_callV, e_callI, e_obj, zg0, zg1, zg2, zg3, zg4, zg5, zg6, zg7, zg8, zg9, zg10, zg11, zg12, zg13, zg14, zg15, zg16, zg17, zg18, zg19, zg20, zg21, zg22, zg23, zt0, zt1, zt2, zt3, zt4, zt5, zt6, zt7, zt8, zt9, zt10, zt11, zt12, zt13, zt14, zt15, zt16, zt17, zt18, zt19, zt20, zt21, zt22, zt23, zsi, zsr, zsl, zsu, zs1, zs2, zs3, zs4, zs5, zs6, zs7, zs8, zs9, zs10, zs11, zs12, zs13, zp0, zp1, zp2, zp3, zp4, zp5, zp6, zm0, zm1, zm2, zm3, zm4, zty0, zty2, zty3, zty10, zty11, zkin_self, ztab_self, zup_app, bx_uu, Option.map_some, decide_eq_true_eq, if_true, if_false, ite_true, ite_false, true_and, and_true, Option.toList_some, Option.toList_none, List.cons_append, List.nil_append, reduceIte, List.length_cons, List.length_nil, Nat.reduceAdd, Nat.reduceLT, Nat.reduceEqDiff, Nat.reduceLeDiff, and_self, not_true_eq_false, not_false_eq_true, Int32.reduceSub, Int32.reduceAdd, Int32.reduceToNatClampNeg, Int32.reduceLE, Int32.reduceLT]
      exact r2
  obtain ⟨M0, r0, e0, g0⟩ := sN_become (d := d) (N := N) (S := S) a2 b2 (by omega) (by omega) (by omega)
  obtain ⟨M', r2, e2, g2⟩ := loop 0 (Nat.zero_le _) M0 ((e0 a (by omega)).trans a1) ((e0 (a + 5) (by omega)).trans a3) g0 (fun j hj => by
    obtain ⟨w, hw⟩ := a6 j hj
    exact ⟨w, gN_fr hw (fun k x y => e0 k (by omega))⟩) (fun j hj => absurd hj (by omega)) (fun k hk => e0 k (by omega))
  refine ⟨M', ?_, e2, g2⟩
  refine zenter (n := 1) kL_become rfl rfl ?_
  refine tL_become_0 _ _ _ ?_
  simp only [bL_become_0, a1, b1, a2.1, List.replicate, List.cons_append, List.nil_append, e_const, e_lconst, e_iload, e_aload, e_lload, e_istore, e_astore, e_lstore, e_iinc, e_bin, e_un, e_div, e_mm, e_ladd, e_lcmp, e_dupi, e_dupr, e_dup2, e_popi, e_goto, e_if, e_icmp, e_sw, e_ret, e_zret0, e_zret1, e_zretb, bI_0, bI_1, bI_t, bI_f, i32_10, i32_01, e_lret, e_vret, e_getf, e_putf, e_iald, e_bald, e_aald, e_alen, e_iast, e_bast, e_aast, e_acopy, e_callS, e_callV, e_callI, e_obj, zg0, zg1, zg2, zg3, zg4, zg5, zg6, zg7, zg8, zg9, zg10, zg11, zg12, zg13, zg14, zg15, zg16, zg17, zg18, zg19, zg20, zg21, zg22, zg23, zt0, zt1, zt2, zt3, zt4, zt5, zt6, zt7, zt8, zt9, zt10, zt11, zt12, zt13, zt14, zt15, zt16, zt17, zt18, zt19, zt20, zt21, zt22, zt23, zsi, zsr, zsl, zsu, zs1, zs2, zs3, zs4, zs5, zs6, zs7, zs8, zs9, zs10, zs11, zs12, zs13, zp0, zp1, zp2, zp3, zp4, zp5, zp6, zm0, zm1, zm2, zm3, zm4, zty0, zty2, zty3, zty10, zty11, zkin_self, ztab_self, zup_app, bx_uu, Option.map_some, decide_eq_true_eq, if_true, if_false, ite_true, ite_false, true_and, and_true, Option.toList_some, Option.toList_none, List.cons_append, List.nil_append, reduceIte, List.length_cons, List.length_nil, Nat.reduceAdd, Nat.reduceLT, Nat.reduceEqDiff, Nat.reduceLeDiff, and_self, not_true_eq_false, not_false_eq_true, Int32.reduceSub, Int32.reduceAdd, Int32.reduceToNatClampNeg, Int32.reduceLE, Int32.reduceLT]
  refine ⟨_, r0, ?_⟩
  simp only [e_const, e_lconst, e_iload, e_aload, e_lload, e_istore, e_astore, e_lstore, e_iinc, e_bin, e_un, e_div, e_mm, e_ladd, e_lcmp, e_dupi, e_dupr, e_dup2, e_popi, e_goto, e_if, e_icmp, e_sw, e_ret, e_zret0, e_zret1, e_zretb, bI_0, bI_1, bI_t, bI_f, i32_10, i32_01, e_lret, e_vret, e_getf, e_putf, e_iald, e_bald, e_aald, e_alen, e_iast, e_bast, e_aast, e_acopy, e_callS, e_callV, e_callI, e_obj, zg0, zg1, zg2, zg3, zg4, zg5, zg6, zg7, zg8, zg9, zg10, zg11, zg12, zg13, zg14, zg15, zg16, zg17, zg18, zg19, zg20, zg21, zg22, zg23, zt0, zt1, zt2, zt3, zt4, zt5, zt6, zt7, zt8, zt9, zt10, zt11, zt12, zt13, zt14, zt15, zt16, zt17, zt18, zt19, zt20, zt21, zt22, zt23, zsi, zsr, zsl, zsu, zs1, zs2, zs3, zs4, zs5, zs6, zs7, zs8, zs9, zs10, zs11, zs12, zs13, zp0, zp1, zp2, zp3, zp4, zp5, zp6, zm0, zm1, zm2, zm3, zm4, zty0, zty2, zty3, zty10, zty11, zkin_self, ztab_self, zup_app, bx_uu, Option.map_some, decide_eq_true_eq, if_true, if_false, ite_true, ite_false, true_and, and_true, Option.toList_some, Option.toList_none, List.cons_append, List.nil_append, reduceIte, List.length_cons, List.length_nil, Nat.reduceAdd, Nat.reduceLT, Nat.reduceEqDiff, Nat.reduceLeDiff, and_self, not_true_eq_false, not_false_eq_true, Int32.reduceSub, Int32.reduceAdd, Int32.reduceToNatClampNeg, Int32.reduceLE, Int32.reduceLT]
  exact r2
end LB
