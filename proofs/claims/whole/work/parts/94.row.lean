/-- how a reading ends -/
def finS (D : Nat → Nat) : Nat ⊕ Nat → Nat ⊕ (Nat × (Nat → Nat))
  | .inl p => .inl p
  | .inr b => .inr (b, D)
theorem pEnd_S (T : Nat → Nat) (n a : Nat) (D : Nat → Nat) : pEnd T n a D = finS D (enS T n (.inr a)) := by
  unfold pEnd enS
  by_cases c : tkK T n (tkS T n a) = 3
  · rw [if_pos c, show stS T n (.inr a) = true from decide_eq_true c]
    rfl
  · rw [if_neg c, show stS T n (.inr a) = false from decide_eq_false c]
    rfl
theorem pNum_S (T : Nat → Nat) (n a lo hi : Nat) (k : Nat → Nat → Nat ⊕ (Nat × (Nat → Nat))) : (nmS T n lo hi (.inr a) = .inr (tkN T n (tkS T n a)) ∧ pNum T n a lo hi k = k (tkV T n (tkS T n a)) (tkN T n (tkS T n a))) ∨ (nmS T n lo hi (.inr a) = .inl (tkS T n a) ∧ pNum T n a lo hi k = .inl (tkS T n a)) := by
  unfold pNum nmS
  by_cases c : tkK T n (tkS T n a) = 2 ∧ lo ≤ tkV T n (tkS T n a) ∧ tkV T n (tkS T n a) < hi
  · rw [if_pos c, show okS T n lo hi (.inr a) = true from decide_eq_true c]
    exact Or.inl ⟨rfl, rfl⟩
  · rw [if_neg c, show okS T n lo hi (.inr a) = false from decide_eq_false c]
    exact Or.inr ⟨rfl, rfl⟩
section MP
variable {M : zHp} {N S d n hn nh np : Nat} {tr : Int64} {fx hall er tp : Nat → Int32} {tax warm : Int32} {T : Nat → Nat} {lt : Int32} {σ : Nat ⊕ Nat} {D : Nat → Nat}
theorem sM_rowP (hs : mSt T n tr lt hn σ M) (h169 : M 169 = .inl (1, 150, .inl fx)) (hX : ∀ j, j < n → fx j &&& 255 = nI (T j)) (hT : ∀ j, j < n → T j < 256) (hn' : n ≤ 150) (hB : mB nh np hall er tp tax warm D M) (hw : wfD D) (hb2 : np ≤ 6) (c : D 1 < 6) : ∃ M', zRuns (d + 4) mM_readRow [.ref 168, .int 112] M N S (none, M', N, S) ∧ (∀ k, ¬ k = 168 → ¬ (170 ≤ k ∧ k ≤ 176) → M' k = M k) ∧ mSt T n tr lt hn (nmS T n 0 51 (nmS T n 0 10 (nmS T n 0 (D 0) σ))) M' ∧ mT nh np hall er tp tax warm M' ∧ (okS T n 0 51 (nmS T n 0 10 (nmS T n 0 (D 0) σ)) = true → mB nh np hall er tp tax warm (updN (updN (updN (updN D (20 + D 1) (vlS T n σ)) (30 + D 1) (vlS T n (nmS T n 0 (D 0) σ))) (40 + D 1) (vlS T n (nmS T n 0 10 (nmS T n 0 (D 0) σ)))) 1 (D 1 + 1)) M') := by
  have h09 := hw.1
  obtain ⟨A, st, so, va, fa, h168, -⟩ := id hs
  obtain ⟨⟨f0, a0, b0, c0⟩, ⟨f1, a1, b1, c1⟩, ⟨f2, a2, b2, c2⟩, ⟨f3, a3, c3⟩, ⟨f4, a4, b4, c4⟩, ⟨f5, a5, b5, c5⟩, f6, a6, b6, c6, d6, e6⟩ := id hB
  have z1 : zix 1 2 = some 1 := by decide
  have zi : zix (nI (D 1)) 6 = some (D 1) := zix_nI (by omega) (by decide)
  have z6 : zix (6 + nI (D 1)) 12 = some (6 + D 1) := zix_eq (by rw [show (6 : Int32) = nI 6 from rfl, nI_add]) (by omega) (by decide)
  -- the home
  obtain ⟨M1, w1, r1, fr1, s1, hv1⟩ := sM_number (d := d) (N := N) (S := S) (lo := 0) (hi := D 0) (lo' := 0) (hi' := nI (D 0) - 1) hs h169 hX hT hn' rfl (fx_pred (by omega))
  have fr1' : ∀ k, ¬ k = 168 → ¬ k = 173 → va_up M1 173 (.inl (0, 6, .inl (upd f3 (D 1) w1))) k = M k := fun k x y => by simp only [zup_app]; rw [if_neg y]; exact fr1 k x
  have s1' : mSt T n tr lt hn (nmS T n 0 (D 0) σ) (va_up M1 173 (.inl (0, 6, .inl (upd f3 (D 1) w1)))) := mSt_fr s1 rfl
  obtain ⟨A1, st1, so1, va1, fa1, h168a, -⟩ := id s1
  have a31 : M1 173 = .inl (0, 6, .inl f3) := (fr1 173 (by omega)).trans a3
  have a21 : M1 172 = .inl (0, 2, .inl f2) := (fr1 172 (by omega)).trans a2
  have a01 : M1 170 = .inl (0, 2, .inl f0) := (fr1 170 (by omega)).trans a0
  -- the errands
  obtain ⟨M2, w2, r2, fr2, s2, hv2⟩ := sM_number (d := d) (N := N) (S := S) (lo := 0) (hi := 10) (lo' := 0) (hi' := 9) s1' ((fr1' 169 (by omega) (by omega)).trans h169) hX hT hn' rfl rfl
  have a42 : M2 174 = .inl (0, 12, .inl f4) := ((fr2 174 (by omega)).trans (fr1' 174 (by omega) (by omega))).trans a4
  have a22 : M2 172 = .inl (0, 2, .inl f2) := ((fr2 172 (by omega)).trans (fr1' 172 (by omega) (by omega))).trans a2
  have fr2' : ∀ k, ¬ k = 168 → ¬ k = 173 → ¬ k = 174 → va_up M2 174 (.inl (0, 12, .inl (upd f4 (6 + D 1) w2))) k = M k := fun k x y z => by simp only [zup_app]; rw [if_neg z]; exact (fr2 k x).trans (fr1' k x y)
  have s2' : mSt T n tr lt hn (nmS T n 0 10 (nmS T n 0 (D 0) σ)) (va_up M2 174 (.inl (0, 12, .inl (upd f4 (6 + D 1) w2)))) := mSt_fr s2 rfl
  obtain ⟨A2, st2, so2, va2, fa2, h168b, -⟩ := id s2
  -- the patience
  obtain ⟨M3, w3, r3, fr3, s3, hv3⟩ := sM_number (d := d) (N := N) (S := S) (lo := 0) (hi := 51) (lo' := 0) (hi' := 50) s2' ((fr2' 169 (by omega) (by omega) (by omega)).trans h169) hX hT hn' rfl rfl
  have a53 : M3 175 = .inl (0, 12, .inl f5) := ((fr3 175 (by omega)).trans (fr2' 175 (by omega) (by omega) (by omega))).trans a5
  have a23 : M3 172 = .inl (0, 2, .inl f2) := ((fr3 172 (by omega)).trans (fr2' 172 (by omega) (by omega) (by omega))).trans a2
  obtain ⟨A3, st3, so3, va3, fa3, h168c, -⟩ := id s3
  have fr3' : ∀ k, ¬ k = 168 → ¬ k = 172 → ¬ k = 173 → ¬ k = 174 → ¬ k = 175 → va_up (va_up M3 175 (.inl (0, 12, .inl (upd f5 (6 + D 1) w3)))) 172 (.inl (0, 2, .inl (upd f2 1 (nI (D 1 + 1))))) k = M k := fun k x y z u v => by simp only [zup_app]; rw [if_neg y, if_neg v]; exact (fr3 k x).trans (fr2' k x z u)
  have e173 : va_up (va_up M3 175 (.inl (0, 12, .inl (upd f5 (6 + D 1) w3)))) 172 (.inl (0, 2, .inl (upd f2 1 (nI (D 1 + 1))))) 173 = .inl (0, 6, .inl (upd f3 (D 1) w1)) := ((fr3 173 (by omega)).trans (show va_up M2 174 _ 173 = M2 173 from rfl)).trans ((fr2 173 (by omega)).trans rfl)
  have e174 : va_up (va_up M3 175 (.inl (0, 12, .inl (upd f5 (6 + D 1) w3)))) 172 (.inl (0, 2, .inl (upd f2 1 (nI (D 1 + 1))))) 174 = .inl (0, 12, .inl (upd f4 (6 + D 1) w2)) := (fr3 174 (by omega)).trans rfl
  have e170 := (fr3' 170 (by omega) (by omega) (by omega) (by omega) (by omega)).trans a0
  have e171 := (fr3' 171 (by omega) (by omega) (by omega) (by omega) (by omega)).trans a1
  have e176 := (fr3' 176 (by omega) (by omega) (by omega) (by omega) (by omega)).trans a6
  refine ⟨va_up (va_up M3 175 (.inl (0, 12, .inl (upd f5 (6 + D 1) w3)))) 172 (.inl (0, 2, .inl (upd f2 1 (nI (D 1 + 1))))), ?_, fun k x y => fr3' k x (by omega) (by omega) (by omega) (by omega), mSt_fr s3 rfl, ⟨⟨f0, e170, b0⟩, ⟨f1, e171, b1⟩, ⟨_, rfl, by rw [pk_un (by decide)]; exact b2⟩, ⟨_, e173⟩, ⟨_, e174, fun j hj => by rw [pk_un (by omega)]; exact b4 j hj⟩, ⟨_, rfl, fun j hj => by rw [pk_un (by omega)]; exact b5 j hj⟩, f6, e176, b6, c6⟩, fun q => ?_⟩
  · refine zenter (n := 0) kM_readRow rfl rfl ?_
    refine tM_readRow_0 _ _ _ ?_
    simp only [bM_readRow_0, zsw, show ((112 : Int32) = 104) = False by decide, e_const, e_lconst, e_iload, e_aload, e_lload, e_istore, e_astore, e_lstore, e_iinc, e_bin, e_un, e_div, e_mm, e_ladd, e_lcmp, e_dupi, e_dupr, e_dup2, e_popi, e_goto, e_if, e_icmp, e_sw, e_ret, e_zret0, e_zret1, e_zretb, bI_0, bI_1, bI_t, bI_f, i32_10, i32_01, e_lret, e_vret, e_getf, e_putf, e_iald, e_bald, e_aald, e_alen, e_iast, e_bast, e_aast, e_acopy, e_callS, e_callV, e_callI, e_obj, zg0, zg1, zg2, zg3, zg4, zg5, zg6, zg7, zg8, zg9, zg10, zg11, zg12, zg13, zg14, zg15, zg16, zg17, zg18, zg19, zg20, zg21, zg22, zg23, zt0, zt1, zt2, zt3, zt4, zt5, zt6, zt7, zt8, zt9, zt10, zt11, zt12, zt13, zt14, zt15, zt16, zt17, zt18, zt19, zt20, zt21, zt22, zt23, zsi, zsr, zsl, zsu, zs1, zs2, zs3, zs4, zs5, zs6, zs7, zs8, zs9, zs10, zs11, zs12, zs13, zp0, zp1, zp2, zp3, zp4, zp5, zp6, zm0, zm1, zm2, zm3, zm4, zty0, zty2, zty3, zty10, zty11, zkin_self, ztab_self, zup_app, bx_uu, Option.map_some, decide_eq_true_eq, if_true, if_false, ite_true, ite_false, true_and, and_true, Option.toList_some, Option.toList_none, List.cons_append, List.nil_append, reduceIte, List.length_cons, List.length_nil, Nat.reduceAdd, Nat.reduceLT, Nat.reduceEqDiff, Nat.reduceLeDiff, and_self, not_true_eq_false, not_false_eq_true, Int32.reduceSub, Int32.reduceAdd, Int32.reduceToNatClampNeg, Int32.reduceLE, Int32.reduceLT]
    refine tM_readRow_70 _ _ _ ?_
    simp only [bM_readRow_70, h168, mQ, a0, a2, z1, c0, c2, e_const, e_lconst, e_iload, e_aload, e_lload, e_istore, e_astore, e_lstore, e_iinc, e_bin, e_un, e_div, e_mm, e_ladd, e_lcmp, e_dupi, e_dupr, e_dup2, e_popi, e_goto, e_if, e_icmp, e_sw, e_ret, e_zret0, e_zret1, e_zretb, bI_0, bI_1, bI_t, bI_f, i32_10, i32_01, e_lret, e_vret, e_getf, e_putf, e_iald, e_bald, e_aald, e_alen, e_iast, e_bast, e_aast, e_acopy, e_callS, e_callV, e_callI, e_obj, zg0, zg1, zg2, zg3, zg4, zg5, zg6, zg7, zg8, zg9, zg10, zg11, zg12, zg13, zg14, zg15, zg16, zg17, zg18, zg19, zg20, zg21, zg22, zg23, zt0, zt1, zt2, zt3, zt4, zt5, zt6, zt7, zt8, zt9, zt10, zt11, zt12, zt13, zt14, zt15, zt16, zt17, zt18, zt19, zt20, zt21, zt22, zt23, zsi, zsr, zsl, zsu, zs1, zs2, zs3, zs4, zs5, zs6, zs7, zs8, zs9, zs10, zs11, zs12, zs13, zp0, zp1, zp2, zp3, zp4, zp5, zp6, zm0, zm1, zm2, zm3, zm4, zty0, zty2, zty3, zty10, zty11, zkin_self, ztab_self, zup_app, bx_uu, Option.map_some, decide_eq_true_eq, if_true, if_false, ite_true, ite_false, true_and, and_true, Option.toList_some, Option.toList_none, List.cons_append, List.nil_append, reduceIte, List.length_cons, List.length_nil, Nat.reduceAdd, Nat.reduceLT, Nat.reduceEqDiff, Nat.reduceLeDiff, and_self, not_true_eq_false, not_false_eq_true, Int32.reduceSub, Int32.reduceAdd, Int32.reduceToNatClampNeg, Int32.reduceLE, Int32.reduceLT]
    refine ⟨_, r1, ?_⟩
    simp only [h168a, mQ, a31, a21, zi, z1, c2, e_const, e_lconst, e_iload, e_aload, e_lload, e_istore, e_astore, e_lstore, e_iinc, e_bin, e_un, e_div, e_mm, e_ladd, e_lcmp, e_dupi, e_dupr, e_dup2, e_popi, e_goto, e_if, e_icmp, e_sw, e_ret, e_zret0, e_zret1, e_zretb, bI_0, bI_1, bI_t, bI_f, i32_10, i32_01, e_lret, e_vret, e_getf, e_putf, e_iald, e_bald, e_aald, e_alen, e_iast, e_bast, e_aast, e_acopy, e_callS, e_callV, e_callI, e_obj, zg0, zg1, zg2, zg3, zg4, zg5, zg6, zg7, zg8, zg9, zg10, zg11, zg12, zg13, zg14, zg15, zg16, zg17, zg18, zg19, zg20, zg21, zg22, zg23, zt0, zt1, zt2, zt3, zt4, zt5, zt6, zt7, zt8, zt9, zt10, zt11, zt12, zt13, zt14, zt15, zt16, zt17, zt18, zt19, zt20, zt21, zt22, zt23, zsi, zsr, zsl, zsu, zs1, zs2, zs3, zs4, zs5, zs6, zs7, zs8, zs9, zs10, zs11, zs12, zs13, zp0, zp1, zp2, zp3, zp4, zp5, zp6, zm0, zm1, zm2, zm3, zm4, zty0, zty2, zty3, zty10, zty11, zkin_self, ztab_self, zup_app, bx_uu, Option.map_some, decide_eq_true_eq, if_true, if_false, ite_true, ite_false, true_and, and_true, Option.toList_some, Option.toList_none, List.cons_append, List.nil_append, reduceIte, List.length_cons, List.length_nil, Nat.reduceAdd, Nat.reduceLT, Nat.reduceEqDiff, Nat.reduceLeDiff, and_self, not_true_eq_false, not_false_eq_true, Int32.reduceSub, Int32.reduceAdd, Int32.reduceToNatClampNeg, Int32.reduceLE, Int32.reduceLT]
    refine ⟨_, r2, ?_⟩
    simp only [h168b, mQ, a42, a22, z6, z1, c2, e_const, e_lconst, e_iload, e_aload, e_lload, e_istore, e_astore, e_lstore, e_iinc, e_bin, e_un, e_div, e_mm, e_ladd, e_lcmp, e_dupi, e_dupr, e_dup2, e_popi, e_goto, e_if, e_icmp, e_sw, e_ret, e_zret0, e_zret1, e_zretb, bI_0, bI_1, bI_t, bI_f, i32_10, i32_01, e_lret, e_vret, e_getf, e_putf, e_iald, e_bald, e_aald, e_alen, e_iast, e_bast, e_aast, e_acopy, e_callS, e_callV, e_callI, e_obj, zg0, zg1, zg2, zg3, zg4, zg5, zg6, zg7, zg8, zg9, zg10, zg11, zg12, zg13, zg14, zg15, zg16, zg17, zg18, zg19, zg20, zg21, zg22, zg23, zt0, zt1, zt2, zt3, zt4, zt5, zt6, zt7, zt8, zt9, zt10, zt11, zt12, zt13, zt14, zt15, zt16, zt17, zt18, zt19, zt20, zt21, zt22, zt23, zsi, zsr, zsl, zsu, zs1, zs2, zs3, zs4, zs5, zs6, zs7, zs8, zs9, zs10, zs11, zs12, zs13, zp0, zp1, zp2, zp3, zp4, zp5, zp6, zm0, zm1, zm2, zm3, zm4, zty0, zty2, zty3, zty10, zty11, zkin_self, ztab_self, zup_app, bx_uu, Option.map_some, decide_eq_true_eq, if_true, if_false, ite_true, ite_false, true_and, and_true, Option.toList_some, Option.toList_none, List.cons_append, List.nil_append, reduceIte, List.length_cons, List.length_nil, Nat.reduceAdd, Nat.reduceLT, Nat.reduceEqDiff, Nat.reduceLeDiff, and_self, not_true_eq_false, not_false_eq_true, Int32.reduceSub, Int32.reduceAdd, Int32.reduceToNatClampNeg, Int32.reduceLE, Int32.reduceLT]
    refine ⟨_, r3, ?_⟩
    simp only [h168c, mQ, a53, a23, z6, z1, c2, nI_1, e_const, e_lconst, e_iload, e_aload, e_lload, e_istore, e_astore, e_lstore, e_iinc, e_bin, e_un, e_div, e_mm, e_ladd, e_lcmp, e_dupi, e_dupr, e_dup2, e_popi, e_goto, e_if, e_icmp, e_sw, e_ret, e_zret0, e_zret1, e_zretb, bI_0, bI_1, bI_t, bI_f, i32_10, i32_01, e_lret, e_vret, e_getf, e_putf, e_iald, e_bald, e_aald, e_alen, e_iast, e_bast, e_aast, e_acopy, e_callS, e_callV, e_callI, e_obj, zg0, zg1, zg2, zg3, zg4, zg5, zg6, zg7, zg8, zg9, zg10, zg11, zg12, zg13, zg14, zg15, zg16, zg17, zg18, zg19, zg20, zg21, zg22, zg23, zt0, zt1, zt2, zt3, zt4, zt5, zt6, zt7, zt8, zt9, zt10, zt11, zt12, zt13, zt14, zt15, zt16, zt17, zt18, zt19, zt20, zt21, zt22, zt23, zsi, zsr, zsl, zsu, zs1, zs2, zs3, zs4, zs5, zs6, zs7, zs8, zs9, zs10, zs11, zs12, zs13, zp0, zp1, zp2, zp3, zp4, zp5, zp6, zm0, zm1, zm2, zm3, zm4, zty0, zty2, zty3, zty10, zty11, zkin_self, ztab_self, zup_app, bx_uu, Option.map_some, decide_eq_true_eq, if_true, if_false, ite_true, ite_false, true_and, and_true, Option.toList_some, Option.toList_none, List.cons_append, List.nil_append, reduceIte, List.length_cons, List.length_nil, Nat.reduceAdd, Nat.reduceLT, Nat.reduceEqDiff, Nat.reduceLeDiff, and_self, not_true_eq_false, not_false_eq_true, Int32.reduceSub, Int32.reduceAdd, Int32.reduceToNatClampNeg, Int32.reduceLE, Int32.reduceLT]
    repeat' (first | (refine zstep uM_readRow [] (by decide) rfl ?_; simp only [bM_readRow_0, bM_readRow_36, bM_readRow_70, bM_readRow_149, bM_readRow_175, bM_readRow_198, e_const, e_lconst, e_iload, e_aload, e_lload, e_istore, e_astore, e_lstore, e_iinc, e_bin, e_un, e_div, e_mm, e_ladd, e_lcmp, e_dupi, e_dupr, e_dup2, e_popi, e_goto, e_if, e_icmp, e_sw, e_ret, e_zret0, e_zret1, e_zretb, bI_0, bI_1, bI_t, bI_f, i32_10, i32_01, e_lret, e_vret, e_getf, e_putf, e_iald, e_bald, e_aald, e_alen, e_iast, e_bast, e_aast, e_acopy, e_callS, e_callV, e_callI, e_obj, zg0, zg1, zg2, zg3, zg4, zg5, zg6, zg7, zg8, zg9, zg10, zg11, zg12, zg13, zg14, zg15, zg16, zg17, zg18, zg19, zg20, zg21, zg22, zg23, zt0, zt1, zt2, zt3, zt4, zt5, zt6, zt7, zt8, zt9, zt10, zt11, zt12, zt13, zt14, zt15, zt16, zt17, zt18, zt19, zt20, zt21, zt22, zt23, zsi, zsr, zsl, zsu, zs1, zs2, zs3, zs4, zs5, zs6, zs7, zs8, zs9, zs10, zs11, zs12, zs13, zp0, zp1, zp2, zp3, zp4, zp5, zp6, zm0, zm1, zm2, zm3, zm4, zty0, zty2, zty3, zty10, zty11, zkin_self, ztab_self, zup_app, bx_uu, Option.map_some, decide_eq_true_eq, if_true, if_false, ite_true, ite_false, true_and, and_true, Option.toList_some, Option.toList_none, List.cons_append, List.nil_append, reduceIte, List.length_cons, List.length_nil, Nat.reduceAdd, Nat.reduceLT, Nat.reduceEqDiff, Nat.reduceLeDiff, and_self, not_true_eq_false, not_false_eq_true, Int32.reduceSub, Int32.reduceAdd, Int32.reduceToNatClampNeg, Int32.reduceLE, Int32.reduceLT]) | (exact True.intro) | (refine ite_in ?_ ?_ <;> intro _) | (refine zsw_in ?_ ?_ <;> (first | (intro e0; subst e0) | intro _)) | (refine zsw_out ?_))
  · have q2 := okS_prev q
    have q1 := okS_prev q2
    have hw1 := hv1 q1
    have hw2 := hv2 q2
    have hw3 := hv3 q
    generalize vlS T n σ = v1 at hw1
    generalize vlS T n (nmS T n 0 (D 0) σ) = v2 at hw2
    generalize vlS T n (nmS T n 0 10 (nmS T n 0 (D 0) σ)) = v3 at hw3
    have e : ∀ k, ¬ k = 1 → ¬ k = 20 + D 1 → ¬ k = 30 + D 1 → ¬ k = 40 + D 1 → updN (updN (updN (updN D (20 + D 1) v1) (30 + D 1) v2) (40 + D 1) v3) 1 (D 1 + 1) k = D k := fun k a b c d => by rw [updN_n _ _ a, updN_n _ _ d, updN_n _ _ c, updN_n _ _ b]
    refine ⟨⟨f0, e170, b0, by rw [e 0 (by omega) (by omega) (by omega) (by omega)]; exact c0⟩, ⟨f1, e171, b1, fun j hj => ?_⟩, ⟨_, rfl, by rw [pk_un (by decide)]; exact b2, by rw [pk_us, updN_s]⟩, ⟨_, e173, fun j hj => ?_⟩, ⟨_, e174, fun j hj => by rw [pk_un (by omega)]; exact b4 j hj, fun j hj => ?_⟩, ⟨_, rfl, fun j hj => by rw [pk_un (by omega)]; exact b5 j hj, fun j hj => ?_⟩, f6, e176, b6, c6, by rw [e 2 (by omega) (by omega) (by omega) (by omega)]; exact d6, by rw [e 3 (by omega) (by omega) (by omega) (by omega)]; exact e6⟩
    · rw [e 0 (by omega) (by omega) (by omega) (by omega)] at hj
      rw [e (10 + j) (by omega) (by omega) (by omega) (by omega)]; exact c1 j hj
    · rw [updN_s] at hj
      by_cases cj : j = D 1
      · rw [cj, pk_us, updN_n _ _ (by omega), updN_n _ _ (by omega), updN_n _ _ (by omega), updN_s]; exact hw1
      · rw [pk_un (by omega), e (20 + j) (by omega) (by omega) (by omega) (by omega)]; exact c3 j (by omega)
    · rw [updN_s] at hj
      by_cases cj : j = D 1
      · rw [cj, pk_us, updN_n _ _ (by omega), updN_n _ _ (by omega), updN_s]; exact hw2
      · rw [pk_un (by omega), e (30 + j) (by omega) (by omega) (by omega) (by omega)]; exact c4 j (by omega)
    · rw [updN_s] at hj
      by_cases cj : j = D 1
      · rw [cj, pk_us, updN_n _ _ (by omega), updN_s]; exact hw3
      · rw [pk_un (by omega), e (40 + j) (by omega) (by omega) (by omega) (by omega)]; exact c5 j (by omega)
/-- any row -/
theorem sM_row {V a : Nat} (hs : mSt T n tr lt hn (.inr a) M) (h169 : M 169 = .inl (1, 150, .inl fx)) (hX : ∀ j, j < n → fx j &&& 255 = nI (T j)) (hT : ∀ j, j < n → T j < 256) (hn' : n ≤ 150) (hB : mB nh np hall er tp tax warm D M) (hw : wfD D) (hb : nh ≤ 9) (hb2 : np ≤ 6) (hlt : lt = nI (D 4 + 2 * D 5)) (hm : mbB D 1 V = true) : ∃ M' lt' σ' D', zRuns (d + 4) mM_readRow [.ref 168, .int (nI V)] M N S (none, M', N, S) ∧ (∀ k, ¬ k = 168 → ¬ (170 ≤ k ∧ k ≤ 176) → M' k = M k) ∧ mSt T n tr lt' hn σ' M' ∧ mT nh np hall er tp tax warm M' ∧ (stS T n σ' = true → mB nh np hall er tp tax warm D' M' ∧ lt' = nI (D' 4 + 2 * D' 5)) ∧ ∀ s, tkN T n s = a → tkK T n s = 1 → tkV T n s = V → pItem T n s D = finS D' (enS T n σ') := by
  have hm := of_decide_eq_true hm
  have h09 := hw.1
  rcases hm.2 with ⟨rfl, c⟩ | ⟨rfl, c⟩ | ⟨rfl, c⟩ | ⟨rfl, c⟩
  · obtain ⟨M', r, fr, s, t, u⟩ := sM_rowH (d := d) (N := N) (S := S) hs h169 hX hT hn' hB hw hb c
    refine ⟨M', lt, _, updN (updN D (10 + D 0) (vlS T n (.inr a))) 0 (D 0 + 1), r, fr, s, t, fun q => ⟨u (stS_prev q), ?_⟩, fun s0 e1 e2 e3 => ?_⟩
    · rw [updN_n _ _ (by omega), updN_n _ _ (by omega), updN_n _ _ (by omega), updN_n _ _ (by omega)]; exact hlt
    · unfold pItem pHouse
      rw [if_pos e2, e3, if_pos rfl, if_pos c, e1]
      rcases pNum_S T n a 0 10 (fun v b => pEnd T n b (updN (updN D (10 + D 0) v) 0 (D 0 + 1))) with ⟨q1, q2⟩ | ⟨q1, q2⟩
      · rw [q1, q2]
        exact pEnd_S _ _ _ _
      · rw [q1, q2]
        rfl
  · obtain ⟨M', r, fr, s, t, u⟩ := sM_rowP (d := d) (N := N) (S := S) hs h169 hX hT hn' hB hw hb2 c
    refine ⟨M', lt, _, updN (updN (updN (updN D (20 + D 1) (vlS T n (.inr a))) (30 + D 1) (vlS T n (nmS T n 0 (D 0) (.inr a)))) (40 + D 1) (vlS T n (nmS T n 0 10 (nmS T n 0 (D 0) (.inr a))))) 1 (D 1 + 1), r, fr, s, t, fun q => ⟨u (stS_prev q), ?_⟩, fun s0 e1 e2 e3 => ?_⟩
    · rw [updN_n _ _ (by omega), updN_n _ _ (by omega), updN_n _ _ (by omega), updN_n _ _ (by omega), updN_n _ _ (by omega), updN_n _ _ (by omega), updN_n _ _ (by omega), updN_n _ _ (by omega)]; exact hlt
    · unfold pItem pPers
      rw [if_pos e2, e3, if_neg (by decide), if_pos rfl, if_pos c, e1]
      rcases pNum_S T n a 0 (D 0) (fun v1 b1 => pNum T n b1 0 10 (fun v2 b2 => pNum T n b2 0 51 (fun v3 b3 => pEnd T n b3 (updN (updN (updN (updN D (20 + D 1) v1) (30 + D 1) v2) (40 + D 1) v3) 1 (D 1 + 1))))) with ⟨q1, q2⟩ | ⟨q1, q2⟩
      · rw [q1, q2]
        rcases pNum_S T n (tkN T n (tkS T n a)) 0 10 (fun v2 b2 => pNum T n b2 0 51 (fun v3 b3 => pEnd T n b3 (updN (updN (updN (updN D (20 + D 1) (tkV T n (tkS T n a))) (30 + D 1) v2) (40 + D 1) v3) 1 (D 1 + 1)))) with ⟨p1, p2⟩ | ⟨p1, p2⟩
        · rw [p1]
          refine p2.trans ?_
          rcases pNum_S T n (tkN T n (tkS T n (tkN T n (tkS T n a)))) 0 51 (fun v3 b3 => pEnd T n b3 (updN (updN (updN (updN D (20 + D 1) (tkV T n (tkS T n a))) (30 + D 1) (tkV T n (tkS T n (tkN T n (tkS T n a))))) (40 + D 1) v3) 1 (D 1 + 1))) with ⟨o1, o2⟩ | ⟨o1, o2⟩
          · rw [o1]
            exact o2.trans (pEnd_S _ _ _ _)
          · rw [o1]
            exact o2
        · rw [p1]
          exact p2
      · rw [q1, q2]
        rfl
  · obtain ⟨M', r, fr, s, t, u⟩ := sM_rowT (d := d) (N := N) (S := S) hs h169 hX hT hn' hB hw hlt c
    refine ⟨M', _, _, updN (updN D 2 (vlS T n (.inr a))) 4 1, r, fr, s, t, fun q => ⟨u (stS_prev q), ?_⟩, fun s0 e1 e2 e3 => ?_⟩
    · rw [updN_s, updN_n _ _ (by omega), updN_n _ _ (by omega)]
    · unfold pItem pTax
      rw [if_pos e2, e3, if_neg (by decide), if_neg (by decide), if_pos rfl, if_pos c, e1]
      rcases pNum_S T n a 0 100 (fun v b => pEnd T n b (updN (updN D 2 v) 4 1)) with ⟨q1, q2⟩ | ⟨q1, q2⟩
      · rw [q1, q2]
        exact pEnd_S _ _ _ _
      · rw [q1, q2]
        rfl
  · obtain ⟨M', r, fr, s, t, u⟩ := sM_rowW (d := d) (N := N) (S := S) hs h169 hX hT hn' hB hw hlt c
    refine ⟨M', _, _, updN (updN D 3 (vlS T n (.inr a))) 5 1, r, fr, s, t, fun q => ⟨u (stS_prev q), ?_⟩, fun s0 e1 e2 e3 => ?_⟩
    · rw [updN_s, updN_n _ _ (by omega), updN_n _ _ (by omega)]
    · unfold pItem pWarm
      rw [if_pos e2, e3, if_neg (by decide), if_neg (by decide), if_neg (by decide), if_pos rfl, if_pos c, e1]
      rcases pNum_S T n a 1 61 (fun v b => pEnd T n b (updN (updN D 3 v) 5 1)) with ⟨q1, q2⟩ | ⟨q1, q2⟩
      · rw [q1, q2]
        exact pEnd_S _ _ _ _
      · rw [q1, q2]
        rfl
end MP
