theorem pItem_no {T : Nat → Nat} {n s : Nat} {D : Nat → Nat} (h : mbB D (tkK T n s) (tkV T n s) = false) : pItem T n s D = .inl s := by
  have h := of_decide_eq_false h
  unfold pItem
  by_cases c : tkK T n s = 1
  · rw [if_pos c]
    by_cases c1 : tkV T n s = 104
    · rw [if_pos c1]
      unfold pHouse
      rw [if_neg (fun q => h ⟨c, Or.inl ⟨c1, q⟩⟩)]
    · rw [if_neg c1]
      by_cases c2 : tkV T n s = 112
      · rw [if_pos c2]
        unfold pPers
        rw [if_neg (fun q => h ⟨c, Or.inr (Or.inl ⟨c2, q⟩)⟩)]
      · rw [if_neg c2]
        by_cases c3 : tkV T n s = 116
        · rw [if_pos c3]
          unfold pTax
          rw [if_neg (fun q => h ⟨c, Or.inr (Or.inr (Or.inl ⟨c3, q⟩))⟩)]
        · rw [if_neg c3]
          by_cases c4 : tkV T n s = 119
          · rw [if_pos c4]
            unfold pWarm
            rw [if_neg (fun q => h ⟨c, Or.inr (Or.inr (Or.inr ⟨c4, q⟩))⟩)]
          · rw [if_neg c4]
  · rw [if_neg c]
section MS
variable {N S d n hn nh np : Nat} {tr : Int64} {fx hall er tp : Nat → Int32} {tax warm : Int32} {T : Nat → Nat}
/-- what the model's reading leaves -/
def sPost (T : Nat → Nat) (n : Nat) (tr : Int64) (hn nh np : Nat) (hall er tp : Nat → Int32) (tax warm : Int32) (r : Nat ⊕ (Nat × (Nat → Nat))) (M M' : zHp) (x : Int32) : Prop := (∀ k, ¬ k = 168 → ¬ (170 ≤ k ∧ k ≤ 176) → M' k = M k) ∧ ((∃ p, r = .inl p ∧ p ≤ n ∧ mT nh np hall er tp tax warm M' ∧ ∃ lt A st so va, M' 168 = mQ tr n lt A st so va (nI p) hn) ∨ ∃ i D, r = .inr (i, D) ∧ x = nI i ∧ mB nh np hall er tp tax warm D M' ∧ wfD D ∧ ∃ lt A st so va, M' 168 = mQ tr n lt A st so va (-9) hn)
theorem sM_stLoop (hX : ∀ j, j < n → fx j &&& 255 = nI (T j)) (hT : ∀ j, j < n → T j < 256) (hn' : n ≤ 150) (hb : nh ≤ 9) (hb2 : np ≤ 6) : ∀ (f a i : Nat) (D : Nat → Nat) (M : zHp) (lt : Int32) (w : Value), n + 1 ≤ a + f → mSt T n tr lt hn (.inr a) M → M 169 = .inl (1, 150, .inl fx) → mB nh np hall er tp tax warm D M → wfD D → lt = nI (D 4 + 2 * D 5) → (w = .retAddr 0 ∨ ∃ z : Int32, w = .int z) → ∃ M' x y, sPost T n tr hn nh np hall er tp tax warm (pAll T n f a i D) M M' x ∧ ∀ F : zF, zGo (d + 6) mM_street 91 ([.ref 168, .int x, y], [], M', N, S) F → zGo (d + 6) mM_street 21 ([.ref 168, .int (nI i), w], [], M, N, S) F := by
  intro f
  induction f with
  | zero =>
    intro a i D M lt w h1 hs
    obtain ⟨A, st, so, va, fa, -, hm⟩ := hs
    have hm : a ≤ n ∧ _ := hm
    omega
  | succ f ih =>
    intro a i D M lt w hf hs h169 hB hw hlt hww
    obtain ⟨A, st, so, va, fa, h168, hm⟩ := id hs
    have hm : a ≤ n ∧ fa = -9 ∧ A = nI (tkN T n (tkS T n a)) ∧ st = nI (tkS T n a) ∧ mTok (tkK T n (tkS T n a)) (tkV T n (tkS T n a)) so va := hm
    obtain ⟨ha, rfl, -, -, hk⟩ := hm
    have hsl := tkS_le (T := T) ha
    have hsg := tkS_ge (T := T) (n := n) (a := a)
    unfold pAll
    by_cases c : tkK T n (tkS T n a) = 0
    · rw [if_pos c]
      have hso : so = 3 := by
        rcases hk with ⟨-, q⟩ | ⟨q, -⟩ | ⟨q, -⟩ | ⟨q, -⟩ | ⟨q, -⟩
        · exact q
        · omega
        · omega
        · omega
        · omega
      subst hso
      refine ⟨M, nI i, w, ⟨fun _ _ _ => rfl, Or.inr ⟨i, D, rfl, rfl, hB, hw, _, _, _, _, _, h168⟩⟩, fun F hF => ?_⟩
      refine tM_street_21 _ _ _ ?_
      simp only [bM_street_21, h168, mQ, e_const, e_lconst, e_iload, e_aload, e_lload, e_istore, e_astore, e_lstore, e_iinc, e_bin, e_un, e_div, e_mm, e_ladd, e_lcmp, e_dupi, e_dupr, e_dup2, e_popi, e_goto, e_if, e_icmp, e_sw, e_ret, e_zret0, e_zret1, e_zretb, bI_0, bI_1, bI_t, bI_f, i32_10, i32_01, e_lret, e_vret, e_getf, e_putf, e_iald, e_bald, e_aald, e_alen, e_iast, e_bast, e_aast, e_acopy, e_callS, e_callV, e_callI, e_obj, zg0, zg1, zg2, zg3, zg4, zg5, zg6, zg7, zg8, zg9, zg10, zg11, zg12, zg13, zg14, zg15, zg16, zg17, zg18, zg19, zg20, zg21, zg22, zg23, zt0, zt1, zt2, zt3, zt4, zt5, zt6, zt7, zt8, zt9, zt10, zt11, zt12, zt13, zt14, zt15, zt16, zt17, zt18, zt19, zt20, zt21, zt22, zt23, zsi, zsr, zsl, zsu, zs1, zs2, zs3, zs4, zs5, zs6, zs7, zs8, zs9, zs10, zs11, zs12, zs13, zp0, zp1, zp2, zp3, zp4, zp5, zp6, zm0, zm1, zm2, zm3, zm4, zty0, zty2, zty3, zty10, zty11, zkin_self, ztab_self, zup_app, bx_uu, Option.map_some, decide_eq_true_eq, if_true, if_false, ite_true, ite_false, true_and, and_true, Option.toList_some, Option.toList_none, List.cons_append, List.nil_append, reduceIte, List.length_cons, List.length_nil, Nat.reduceAdd, Nat.reduceLT, Nat.reduceEqDiff, Nat.reduceLeDiff, and_self, not_true_eq_false, not_false_eq_true, Int32.reduceSub, Int32.reduceAdd, Int32.reduceToNatClampNeg, Int32.reduceLE, Int32.reduceLT]
      exact hF
    · rw [if_neg c]
      have hso : (so = 3) = False := eq_false (fun q => by
        rcases hk with ⟨q1, -⟩ | ⟨-, q1, q2, q3⟩ | ⟨-, q1, -⟩ | ⟨-, q1⟩ | ⟨-, q1⟩
        · exact c q1
        · rw [q1, nI_eqN (n := tkV T n (tkS T n a)) (x := 3) 3 rfl (by omega)] at q; omega
        · rw [q1] at q; exact absurd q (by decide)
        · rw [q1] at q; exact absurd q (by decide)
        · rw [q1] at q; exact absurd q (by decide))
      have hlt0 : tkS T n a < n := Classical.byContradiction (fun q => c (tkK_0.mpr q))
      have hgt := tkN_gt (T := T) hlt0
      have rm := sM_mayBe (d := d + 5) (N := N) (S := S) h168 hB hw hlt hk
      obtain ⟨M1, w1, r1, fr1, s1, -⟩ := sM_due (d := d + 3) (N := N) (S := S) hs h169 hX hT hn' (mbB D (tkK T n (tkS T n a)) (tkV T n (tkS T n a)))
      obtain ⟨A1, st1, so1, va1, fa1, h1681, hm1⟩ := id s1
      cases eb : mbB D (tkK T n (tkS T n a)) (tkV T n (tkS T n a)) with
      | false =>
        rw [eb] at r1 s1 rm hm1
        have hm1 : tkS T n a ≤ n ∧ fa1 = nI (tkS T n a) := hm1
        obtain ⟨-, rfl⟩ := hm1
        rw [pItem_no eb]
        refine ⟨M1, nI i, .int so, ⟨fun k x y => fr1 k x, Or.inl ⟨tkS T n a, rfl, hsl, mT_fr (mB_T hB) (fun k a b => fr1 k (by omega)), _, _, _, _, _, h1681⟩⟩, fun F hF => ?_⟩
        have n9 := n9_ne (h := tkS T n a) (by omega)
        refine tM_street_21 _ _ _ ?_
        simp only [zsw0 hww, bM_street_21, h168, mQ, hso, e_const, e_lconst, e_iload, e_aload, e_lload, e_istore, e_astore, e_lstore, e_iinc, e_bin, e_un, e_div, e_mm, e_ladd, e_lcmp, e_dupi, e_dupr, e_dup2, e_popi, e_goto, e_if, e_icmp, e_sw, e_ret, e_zret0, e_zret1, e_zretb, bI_0, bI_1, bI_t, bI_f, i32_10, i32_01, e_lret, e_vret, e_getf, e_putf, e_iald, e_bald, e_aald, e_alen, e_iast, e_bast, e_aast, e_acopy, e_callS, e_callV, e_callI, e_obj, zg0, zg1, zg2, zg3, zg4, zg5, zg6, zg7, zg8, zg9, zg10, zg11, zg12, zg13, zg14, zg15, zg16, zg17, zg18, zg19, zg20, zg21, zg22, zg23, zt0, zt1, zt2, zt3, zt4, zt5, zt6, zt7, zt8, zt9, zt10, zt11, zt12, zt13, zt14, zt15, zt16, zt17, zt18, zt19, zt20, zt21, zt22, zt23, zsi, zsr, zsl, zsu, zs1, zs2, zs3, zs4, zs5, zs6, zs7, zs8, zs9, zs10, zs11, zs12, zs13, zp0, zp1, zp2, zp3, zp4, zp5, zp6, zm0, zm1, zm2, zm3, zm4, zty0, zty2, zty3, zty10, zty11, zkin_self, ztab_self, zup_app, bx_uu, Option.map_some, decide_eq_true_eq, if_true, if_false, ite_true, ite_false, true_and, and_true, Option.toList_some, Option.toList_none, List.cons_append, List.nil_append, reduceIte, List.length_cons, List.length_nil, Nat.reduceAdd, Nat.reduceLT, Nat.reduceEqDiff, Nat.reduceLeDiff, and_self, not_true_eq_false, not_false_eq_true, Int32.reduceSub, Int32.reduceAdd, Int32.reduceToNatClampNeg, Int32.reduceLE, Int32.reduceLT]
        refine ⟨_, rm, ?_⟩
        simp only [h168, mQ, e_const, e_lconst, e_iload, e_aload, e_lload, e_istore, e_astore, e_lstore, e_iinc, e_bin, e_un, e_div, e_mm, e_ladd, e_lcmp, e_dupi, e_dupr, e_dup2, e_popi, e_goto, e_if, e_icmp, e_sw, e_ret, e_zret0, e_zret1, e_zretb, bI_0, bI_1, bI_t, bI_f, i32_10, i32_01, e_lret, e_vret, e_getf, e_putf, e_iald, e_bald, e_aald, e_alen, e_iast, e_bast, e_aast, e_acopy, e_callS, e_callV, e_callI, e_obj, zg0, zg1, zg2, zg3, zg4, zg5, zg6, zg7, zg8, zg9, zg10, zg11, zg12, zg13, zg14, zg15, zg16, zg17, zg18, zg19, zg20, zg21, zg22, zg23, zt0, zt1, zt2, zt3, zt4, zt5, zt6, zt7, zt8, zt9, zt10, zt11, zt12, zt13, zt14, zt15, zt16, zt17, zt18, zt19, zt20, zt21, zt22, zt23, zsi, zsr, zsl, zsu, zs1, zs2, zs3, zs4, zs5, zs6, zs7, zs8, zs9, zs10, zs11, zs12, zs13, zp0, zp1, zp2, zp3, zp4, zp5, zp6, zm0, zm1, zm2, zm3, zm4, zty0, zty2, zty3, zty10, zty11, zkin_self, ztab_self, zup_app, bx_uu, Option.map_some, decide_eq_true_eq, if_true, if_false, ite_true, ite_false, true_and, and_true, Option.toList_some, Option.toList_none, List.cons_append, List.nil_append, reduceIte, List.length_cons, List.length_nil, Nat.reduceAdd, Nat.reduceLT, Nat.reduceEqDiff, Nat.reduceLeDiff, and_self, not_true_eq_false, not_false_eq_true, Int32.reduceSub, Int32.reduceAdd, Int32.reduceToNatClampNeg, Int32.reduceLE, Int32.reduceLT]
        refine ⟨_, r1, ?_⟩
        simp only [h1681, mQ, n9, e_const, e_lconst, e_iload, e_aload, e_lload, e_istore, e_astore, e_lstore, e_iinc, e_bin, e_un, e_div, e_mm, e_ladd, e_lcmp, e_dupi, e_dupr, e_dup2, e_popi, e_goto, e_if, e_icmp, e_sw, e_ret, e_zret0, e_zret1, e_zretb, bI_0, bI_1, bI_t, bI_f, i32_10, i32_01, e_lret, e_vret, e_getf, e_putf, e_iald, e_bald, e_aald, e_alen, e_iast, e_bast, e_aast, e_acopy, e_callS, e_callV, e_callI, e_obj, zg0, zg1, zg2, zg3, zg4, zg5, zg6, zg7, zg8, zg9, zg10, zg11, zg12, zg13, zg14, zg15, zg16, zg17, zg18, zg19, zg20, zg21, zg22, zg23, zt0, zt1, zt2, zt3, zt4, zt5, zt6, zt7, zt8, zt9, zt10, zt11, zt12, zt13, zt14, zt15, zt16, zt17, zt18, zt19, zt20, zt21, zt22, zt23, zsi, zsr, zsl, zsu, zs1, zs2, zs3, zs4, zs5, zs6, zs7, zs8, zs9, zs10, zs11, zs12, zs13, zp0, zp1, zp2, zp3, zp4, zp5, zp6, zm0, zm1, zm2, zm3, zm4, zty0, zty2, zty3, zty10, zty11, zkin_self, ztab_self, zup_app, bx_uu, Option.map_some, decide_eq_true_eq, if_true, if_false, ite_true, ite_false, true_and, and_true, Option.toList_some, Option.toList_none, List.cons_append, List.nil_append, reduceIte, List.length_cons, List.length_nil, Nat.reduceAdd, Nat.reduceLT, Nat.reduceEqDiff, Nat.reduceLeDiff, and_self, not_true_eq_false, not_false_eq_true, Int32.reduceSub, Int32.reduceAdd, Int32.reduceToNatClampNeg, Int32.reduceLE, Int32.reduceLT]
        refine tM_street_88 _ _ _ ?_
        simp only [bM_street_88, e_const, e_lconst, e_iload, e_aload, e_lload, e_istore, e_astore, e_lstore, e_iinc, e_bin, e_un, e_div, e_mm, e_ladd, e_lcmp, e_dupi, e_dupr, e_dup2, e_popi, e_goto, e_if, e_icmp, e_sw, e_ret, e_zret0, e_zret1, e_zretb, bI_0, bI_1, bI_t, bI_f, i32_10, i32_01, e_lret, e_vret, e_getf, e_putf, e_iald, e_bald, e_aald, e_alen, e_iast, e_bast, e_aast, e_acopy, e_callS, e_callV, e_callI, e_obj, zg0, zg1, zg2, zg3, zg4, zg5, zg6, zg7, zg8, zg9, zg10, zg11, zg12, zg13, zg14, zg15, zg16, zg17, zg18, zg19, zg20, zg21, zg22, zg23, zt0, zt1, zt2, zt3, zt4, zt5, zt6, zt7, zt8, zt9, zt10, zt11, zt12, zt13, zt14, zt15, zt16, zt17, zt18, zt19, zt20, zt21, zt22, zt23, zsi, zsr, zsl, zsu, zs1, zs2, zs3, zs4, zs5, zs6, zs7, zs8, zs9, zs10, zs11, zs12, zs13, zp0, zp1, zp2, zp3, zp4, zp5, zp6, zm0, zm1, zm2, zm3, zm4, zty0, zty2, zty3, zty10, zty11, zkin_self, ztab_self, zup_app, bx_uu, Option.map_some, decide_eq_true_eq, if_true, if_false, ite_true, ite_false, true_and, and_true, Option.toList_some, Option.toList_none, List.cons_append, List.nil_append, reduceIte, List.length_cons, List.length_nil, Nat.reduceAdd, Nat.reduceLT, Nat.reduceEqDiff, Nat.reduceLeDiff, and_self, not_true_eq_false, not_false_eq_true, Int32.reduceSub, Int32.reduceAdd, Int32.reduceToNatClampNeg, Int32.reduceLE, Int32.reduceLT]
        refine tM_street_21 _ _ _ ?_
        simp only [bM_street_21, h1681, mQ, n9, e_const, e_lconst, e_iload, e_aload, e_lload, e_istore, e_astore, e_lstore, e_iinc, e_bin, e_un, e_div, e_mm, e_ladd, e_lcmp, e_dupi, e_dupr, e_dup2, e_popi, e_goto, e_if, e_icmp, e_sw, e_ret, e_zret0, e_zret1, e_zretb, bI_0, bI_1, bI_t, bI_f, i32_10, i32_01, e_lret, e_vret, e_getf, e_putf, e_iald, e_bald, e_aald, e_alen, e_iast, e_bast, e_aast, e_acopy, e_callS, e_callV, e_callI, e_obj, zg0, zg1, zg2, zg3, zg4, zg5, zg6, zg7, zg8, zg9, zg10, zg11, zg12, zg13, zg14, zg15, zg16, zg17, zg18, zg19, zg20, zg21, zg22, zg23, zt0, zt1, zt2, zt3, zt4, zt5, zt6, zt7, zt8, zt9, zt10, zt11, zt12, zt13, zt14, zt15, zt16, zt17, zt18, zt19, zt20, zt21, zt22, zt23, zsi, zsr, zsl, zsu, zs1, zs2, zs3, zs4, zs5, zs6, zs7, zs8, zs9, zs10, zs11, zs12, zs13, zp0, zp1, zp2, zp3, zp4, zp5, zp6, zm0, zm1, zm2, zm3, zm4, zty0, zty2, zty3, zty10, zty11, zkin_self, ztab_self, zup_app, bx_uu, Option.map_some, decide_eq_true_eq, if_true, if_false, ite_true, ite_false, true_and, and_true, Option.toList_some, Option.toList_none, List.cons_append, List.nil_append, reduceIte, List.length_cons, List.length_nil, Nat.reduceAdd, Nat.reduceLT, Nat.reduceEqDiff, Nat.reduceLeDiff, and_self, not_true_eq_false, not_false_eq_true, Int32.reduceSub, Int32.reduceAdd, Int32.reduceToNatClampNeg, Int32.reduceLE, Int32.reduceLT]
        exact hF
      | true =>
        have hK1 : tkK T n (tkS T n a) = 1 := (of_decide_eq_true eb).1
        have hsoV : so = nI (tkV T n (tkS T n a)) := by
          rcases hk with ⟨q, -⟩ | ⟨-, q, -⟩ | ⟨q, -⟩ | ⟨q, -⟩ | ⟨q, -⟩
          · omega
          · exact q
          · omega
          · omega
          · omega
        rw [eb] at r1 s1 rm hm1
        have hm1 : tkN T n (tkS T n a) ≤ n ∧ fa1 = -9 ∧ _ := hm1
        obtain ⟨hN, rfl, -⟩ := hm1
        have s1 : mSt T n tr lt hn (.inr (tkN T n (tkS T n a))) M1 := s1
        rw [hK1] at eb
        have h1691 := (fr1 169 (by omega)).trans h169
        obtain ⟨M2, lt2, σ2, D2, r2, fr2, s2, t2, u2, p2⟩ := sM_row (d := d + 1) (N := N) (S := S) s1 h1691 hX hT hn' (mB_fr hB (fun k a b => fr1 k (by omega))) hw hb hb2 hlt eb
        have p2 := p2 (tkS T n a) rfl hK1 rfl
        have hok := pItem_ok (T := T) hsl hw
        rw [p2] at hok ⊢
        obtain ⟨A2, st2, so2, va2, fa2, h1682, hm2⟩ := id s2
        have h1692 := (fr2 169 (by omega) (by omega)).trans h1691
        obtain ⟨M3, w3, r3, fr3, s3, -⟩ := sM_due (d := d + 3) (N := N) (S := S) s2 h1692 hX hT hn' (decide (so2 = 2))
        have eσ : dueS T n (decide (so2 = 2)) σ2 = enS T n σ2 := by
          unfold enS
          match σ2, hm2 with
          | .inl p, _ => rfl
          | .inr a2, hm2 =>
            have hm2 : a2 ≤ n ∧ fa2 = -9 ∧ A2 = _ ∧ st2 = _ ∧ mTok (tkK T n (tkS T n a2)) (tkV T n (tkS T n a2)) so2 va2 := hm2
            have hk2 := hm2.2.2.2.2
            have : decide (so2 = 2) = decide (tkK T n (tkS T n a2) = 3) := by
              rcases hk2 with ⟨q1, q2⟩ | ⟨q1, q2, q3, q4⟩ | ⟨q1, q2, -⟩ | ⟨q1, q2⟩ | ⟨q1, q2⟩
              · rw [q1, q2]; decide
              · rw [q1, q2]
                rw [decide_eq_false (fun q => by rw [nI_eqN (n := tkV T n (tkS T n a2)) (x := 2) 2 rfl (by omega)] at q; omega)]
                decide
              · rw [q1, q2]; decide
              · rw [q1, q2]; decide
              · rw [q1, q2]; decide
            rw [this]
            rfl
        rw [eσ] at s3
        obtain ⟨A3, st3, so3, va3, fa3, h1683, hm3⟩ := id s3
        have fr03 : ∀ k, ¬ k = 168 → ¬ (170 ≤ k ∧ k ≤ 176) → M3 k = M k := fun k x y => (fr3 k x).trans ((fr2 k x y).trans (fr1 k x))
        -- up to the loop's head again
        have run : ∀ F : zF, zGo (d + 6) mM_street 21 ([.ref 168, .int (nI (i + 1)), .int so], [], M3, N, S) F → zGo (d + 6) mM_street 21 ([.ref 168, .int (nI i), w], [], M, N, S) F := by
          intro F hF
          refine tM_street_21 _ _ _ ?_
          simp only [zsw0 hww, bM_street_21, h168, mQ, hso, e_const, e_lconst, e_iload, e_aload, e_lload, e_istore, e_astore, e_lstore, e_iinc, e_bin, e_un, e_div, e_mm, e_ladd, e_lcmp, e_dupi, e_dupr, e_dup2, e_popi, e_goto, e_if, e_icmp, e_sw, e_ret, e_zret0, e_zret1, e_zretb, bI_0, bI_1, bI_t, bI_f, i32_10, i32_01, e_lret, e_vret, e_getf, e_putf, e_iald, e_bald, e_aald, e_alen, e_iast, e_bast, e_aast, e_acopy, e_callS, e_callV, e_callI, e_obj, zg0, zg1, zg2, zg3, zg4, zg5, zg6, zg7, zg8, zg9, zg10, zg11, zg12, zg13, zg14, zg15, zg16, zg17, zg18, zg19, zg20, zg21, zg22, zg23, zt0, zt1, zt2, zt3, zt4, zt5, zt6, zt7, zt8, zt9, zt10, zt11, zt12, zt13, zt14, zt15, zt16, zt17, zt18, zt19, zt20, zt21, zt22, zt23, zsi, zsr, zsl, zsu, zs1, zs2, zs3, zs4, zs5, zs6, zs7, zs8, zs9, zs10, zs11, zs12, zs13, zp0, zp1, zp2, zp3, zp4, zp5, zp6, zm0, zm1, zm2, zm3, zm4, zty0, zty2, zty3, zty10, zty11, zkin_self, ztab_self, zup_app, bx_uu, Option.map_some, decide_eq_true_eq, if_true, if_false, ite_true, ite_false, true_and, and_true, Option.toList_some, Option.toList_none, List.cons_append, List.nil_append, reduceIte, List.length_cons, List.length_nil, Nat.reduceAdd, Nat.reduceLT, Nat.reduceEqDiff, Nat.reduceLeDiff, and_self, not_true_eq_false, not_false_eq_true, Int32.reduceSub, Int32.reduceAdd, Int32.reduceToNatClampNeg, Int32.reduceLE, Int32.reduceLT]
          refine ⟨_, rm, ?_⟩
          simp only [h168, mQ, e_const, e_lconst, e_iload, e_aload, e_lload, e_istore, e_astore, e_lstore, e_iinc, e_bin, e_un, e_div, e_mm, e_ladd, e_lcmp, e_dupi, e_dupr, e_dup2, e_popi, e_goto, e_if, e_icmp, e_sw, e_ret, e_zret0, e_zret1, e_zretb, bI_0, bI_1, bI_t, bI_f, i32_10, i32_01, e_lret, e_vret, e_getf, e_putf, e_iald, e_bald, e_aald, e_alen, e_iast, e_bast, e_aast, e_acopy, e_callS, e_callV, e_callI, e_obj, zg0, zg1, zg2, zg3, zg4, zg5, zg6, zg7, zg8, zg9, zg10, zg11, zg12, zg13, zg14, zg15, zg16, zg17, zg18, zg19, zg20, zg21, zg22, zg23, zt0, zt1, zt2, zt3, zt4, zt5, zt6, zt7, zt8, zt9, zt10, zt11, zt12, zt13, zt14, zt15, zt16, zt17, zt18, zt19, zt20, zt21, zt22, zt23, zsi, zsr, zsl, zsu, zs1, zs2, zs3, zs4, zs5, zs6, zs7, zs8, zs9, zs10, zs11, zs12, zs13, zp0, zp1, zp2, zp3, zp4, zp5, zp6, zm0, zm1, zm2, zm3, zm4, zty0, zty2, zty3, zty10, zty11, zkin_self, ztab_self, zup_app, bx_uu, Option.map_some, decide_eq_true_eq, if_true, if_false, ite_true, ite_false, true_and, and_true, Option.toList_some, Option.toList_none, List.cons_append, List.nil_append, reduceIte, List.length_cons, List.length_nil, Nat.reduceAdd, Nat.reduceLT, Nat.reduceEqDiff, Nat.reduceLeDiff, and_self, not_true_eq_false, not_false_eq_true, Int32.reduceSub, Int32.reduceAdd, Int32.reduceToNatClampNeg, Int32.reduceLE, Int32.reduceLT]
          refine ⟨_, r1, ?_⟩
          simp only [h1681, mQ, e_const, e_lconst, e_iload, e_aload, e_lload, e_istore, e_astore, e_lstore, e_iinc, e_bin, e_un, e_div, e_mm, e_ladd, e_lcmp, e_dupi, e_dupr, e_dup2, e_popi, e_goto, e_if, e_icmp, e_sw, e_ret, e_zret0, e_zret1, e_zretb, bI_0, bI_1, bI_t, bI_f, i32_10, i32_01, e_lret, e_vret, e_getf, e_putf, e_iald, e_bald, e_aald, e_alen, e_iast, e_bast, e_aast, e_acopy, e_callS, e_callV, e_callI, e_obj, zg0, zg1, zg2, zg3, zg4, zg5, zg6, zg7, zg8, zg9, zg10, zg11, zg12, zg13, zg14, zg15, zg16, zg17, zg18, zg19, zg20, zg21, zg22, zg23, zt0, zt1, zt2, zt3, zt4, zt5, zt6, zt7, zt8, zt9, zt10, zt11, zt12, zt13, zt14, zt15, zt16, zt17, zt18, zt19, zt20, zt21, zt22, zt23, zsi, zsr, zsl, zsu, zs1, zs2, zs3, zs4, zs5, zs6, zs7, zs8, zs9, zs10, zs11, zs12, zs13, zp0, zp1, zp2, zp3, zp4, zp5, zp6, zm0, zm1, zm2, zm3, zm4, zty0, zty2, zty3, zty10, zty11, zkin_self, ztab_self, zup_app, bx_uu, Option.map_some, decide_eq_true_eq, if_true, if_false, ite_true, ite_false, true_and, and_true, Option.toList_some, Option.toList_none, List.cons_append, List.nil_append, reduceIte, List.length_cons, List.length_nil, Nat.reduceAdd, Nat.reduceLT, Nat.reduceEqDiff, Nat.reduceLeDiff, and_self, not_true_eq_false, not_false_eq_true, Int32.reduceSub, Int32.reduceAdd, Int32.reduceToNatClampNeg, Int32.reduceLE, Int32.reduceLT]
          rw [hsoV]
          refine ⟨_, r2, ?_⟩
          rw [hsoV] at hF
          by_cases c2 : so2 = 2
          · rw [decide_eq_true c2] at r3
            simp only [h1682, mQ, c2, e_const, e_lconst, e_iload, e_aload, e_lload, e_istore, e_astore, e_lstore, e_iinc, e_bin, e_un, e_div, e_mm, e_ladd, e_lcmp, e_dupi, e_dupr, e_dup2, e_popi, e_goto, e_if, e_icmp, e_sw, e_ret, e_zret0, e_zret1, e_zretb, bI_0, bI_1, bI_t, bI_f, i32_10, i32_01, e_lret, e_vret, e_getf, e_putf, e_iald, e_bald, e_aald, e_alen, e_iast, e_bast, e_aast, e_acopy, e_callS, e_callV, e_callI, e_obj, zg0, zg1, zg2, zg3, zg4, zg5, zg6, zg7, zg8, zg9, zg10, zg11, zg12, zg13, zg14, zg15, zg16, zg17, zg18, zg19, zg20, zg21, zg22, zg23, zt0, zt1, zt2, zt3, zt4, zt5, zt6, zt7, zt8, zt9, zt10, zt11, zt12, zt13, zt14, zt15, zt16, zt17, zt18, zt19, zt20, zt21, zt22, zt23, zsi, zsr, zsl, zsu, zs1, zs2, zs3, zs4, zs5, zs6, zs7, zs8, zs9, zs10, zs11, zs12, zs13, zp0, zp1, zp2, zp3, zp4, zp5, zp6, zm0, zm1, zm2, zm3, zm4, zty0, zty2, zty3, zty10, zty11, zkin_self, ztab_self, zup_app, bx_uu, Option.map_some, decide_eq_true_eq, if_true, if_false, ite_true, ite_false, true_and, and_true, Option.toList_some, Option.toList_none, List.cons_append, List.nil_append, reduceIte, List.length_cons, List.length_nil, Nat.reduceAdd, Nat.reduceLT, Nat.reduceEqDiff, Nat.reduceLeDiff, and_self, not_true_eq_false, not_false_eq_true, Int32.reduceSub, Int32.reduceAdd, Int32.reduceToNatClampNeg, Int32.reduceLE, Int32.reduceLT]
            refine tM_street_81 _ _ _ ?_
            simp only [bM_street_81, h1682, mQ, e_const, e_lconst, e_iload, e_aload, e_lload, e_istore, e_astore, e_lstore, e_iinc, e_bin, e_un, e_div, e_mm, e_ladd, e_lcmp, e_dupi, e_dupr, e_dup2, e_popi, e_goto, e_if, e_icmp, e_sw, e_ret, e_zret0, e_zret1, e_zretb, bI_0, bI_1, bI_t, bI_f, i32_10, i32_01, e_lret, e_vret, e_getf, e_putf, e_iald, e_bald, e_aald, e_alen, e_iast, e_bast, e_aast, e_acopy, e_callS, e_callV, e_callI, e_obj, zg0, zg1, zg2, zg3, zg4, zg5, zg6, zg7, zg8, zg9, zg10, zg11, zg12, zg13, zg14, zg15, zg16, zg17, zg18, zg19, zg20, zg21, zg22, zg23, zt0, zt1, zt2, zt3, zt4, zt5, zt6, zt7, zt8, zt9, zt10, zt11, zt12, zt13, zt14, zt15, zt16, zt17, zt18, zt19, zt20, zt21, zt22, zt23, zsi, zsr, zsl, zsu, zs1, zs2, zs3, zs4, zs5, zs6, zs7, zs8, zs9, zs10, zs11, zs12, zs13, zp0, zp1, zp2, zp3, zp4, zp5, zp6, zm0, zm1, zm2, zm3, zm4, zty0, zty2, zty3, zty10, zty11, zkin_self, ztab_self, zup_app, bx_uu, Option.map_some, decide_eq_true_eq, if_true, if_false, ite_true, ite_false, true_and, and_true, Option.toList_some, Option.toList_none, List.cons_append, List.nil_append, reduceIte, List.length_cons, List.length_nil, Nat.reduceAdd, Nat.reduceLT, Nat.reduceEqDiff, Nat.reduceLeDiff, and_self, not_true_eq_false, not_false_eq_true, Int32.reduceSub, Int32.reduceAdd, Int32.reduceToNatClampNeg, Int32.reduceLE, Int32.reduceLT]
            refine ⟨_, r3, ?_⟩
            simp only [nI_1, e_const, e_lconst, e_iload, e_aload, e_lload, e_istore, e_astore, e_lstore, e_iinc, e_bin, e_un, e_div, e_mm, e_ladd, e_lcmp, e_dupi, e_dupr, e_dup2, e_popi, e_goto, e_if, e_icmp, e_sw, e_ret, e_zret0, e_zret1, e_zretb, bI_0, bI_1, bI_t, bI_f, i32_10, i32_01, e_lret, e_vret, e_getf, e_putf, e_iald, e_bald, e_aald, e_alen, e_iast, e_bast, e_aast, e_acopy, e_callS, e_callV, e_callI, e_obj, zg0, zg1, zg2, zg3, zg4, zg5, zg6, zg7, zg8, zg9, zg10, zg11, zg12, zg13, zg14, zg15, zg16, zg17, zg18, zg19, zg20, zg21, zg22, zg23, zt0, zt1, zt2, zt3, zt4, zt5, zt6, zt7, zt8, zt9, zt10, zt11, zt12, zt13, zt14, zt15, zt16, zt17, zt18, zt19, zt20, zt21, zt22, zt23, zsi, zsr, zsl, zsu, zs1, zs2, zs3, zs4, zs5, zs6, zs7, zs8, zs9, zs10, zs11, zs12, zs13, zp0, zp1, zp2, zp3, zp4, zp5, zp6, zm0, zm1, zm2, zm3, zm4, zty0, zty2, zty3, zty10, zty11, zkin_self, ztab_self, zup_app, bx_uu, Option.map_some, decide_eq_true_eq, if_true, if_false, ite_true, ite_false, true_and, and_true, Option.toList_some, Option.toList_none, List.cons_append, List.nil_append, reduceIte, List.length_cons, List.length_nil, Nat.reduceAdd, Nat.reduceLT, Nat.reduceEqDiff, Nat.reduceLeDiff, and_self, not_true_eq_false, not_false_eq_true, Int32.reduceSub, Int32.reduceAdd, Int32.reduceToNatClampNeg, Int32.reduceLE, Int32.reduceLT]
            refine tM_street_88 _ _ _ ?_
            simp only [bM_street_88, e_const, e_lconst, e_iload, e_aload, e_lload, e_istore, e_astore, e_lstore, e_iinc, e_bin, e_un, e_div, e_mm, e_ladd, e_lcmp, e_dupi, e_dupr, e_dup2, e_popi, e_goto, e_if, e_icmp, e_sw, e_ret, e_zret0, e_zret1, e_zretb, bI_0, bI_1, bI_t, bI_f, i32_10, i32_01, e_lret, e_vret, e_getf, e_putf, e_iald, e_bald, e_aald, e_alen, e_iast, e_bast, e_aast, e_acopy, e_callS, e_callV, e_callI, e_obj, zg0, zg1, zg2, zg3, zg4, zg5, zg6, zg7, zg8, zg9, zg10, zg11, zg12, zg13, zg14, zg15, zg16, zg17, zg18, zg19, zg20, zg21, zg22, zg23, zt0, zt1, zt2, zt3, zt4, zt5, zt6, zt7, zt8, zt9, zt10, zt11, zt12, zt13, zt14, zt15, zt16, zt17, zt18, zt19, zt20, zt21, zt22, zt23, zsi, zsr, zsl, zsu, zs1, zs2, zs3, zs4, zs5, zs6, zs7, zs8, zs9, zs10, zs11, zs12, zs13, zp0, zp1, zp2, zp3, zp4, zp5, zp6, zm0, zm1, zm2, zm3, zm4, zty0, zty2, zty3, zty10, zty11, zkin_self, ztab_self, zup_app, bx_uu, Option.map_some, decide_eq_true_eq, if_true, if_false, ite_true, ite_false, true_and, and_true, Option.toList_some, Option.toList_none, List.cons_append, List.nil_append, reduceIte, List.length_cons, List.length_nil, Nat.reduceAdd, Nat.reduceLT, Nat.reduceEqDiff, Nat.reduceLeDiff, and_self, not_true_eq_false, not_false_eq_true, Int32.reduceSub, Int32.reduceAdd, Int32.reduceToNatClampNeg, Int32.reduceLE, Int32.reduceLT]
            exact hF
          · rw [decide_eq_false c2] at r3
            simp only [h1682, mQ, c2, e_const, e_lconst, e_iload, e_aload, e_lload, e_istore, e_astore, e_lstore, e_iinc, e_bin, e_un, e_div, e_mm, e_ladd, e_lcmp, e_dupi, e_dupr, e_dup2, e_popi, e_goto, e_if, e_icmp, e_sw, e_ret, e_zret0, e_zret1, e_zretb, bI_0, bI_1, bI_t, bI_f, i32_10, i32_01, e_lret, e_vret, e_getf, e_putf, e_iald, e_bald, e_aald, e_alen, e_iast, e_bast, e_aast, e_acopy, e_callS, e_callV, e_callI, e_obj, zg0, zg1, zg2, zg3, zg4, zg5, zg6, zg7, zg8, zg9, zg10, zg11, zg12, zg13, zg14, zg15, zg16, zg17, zg18, zg19, zg20, zg21, zg22, zg23, zt0, zt1, zt2, zt3, zt4, zt5, zt6, zt7, zt8, zt9, zt10, zt11, zt12, zt13, zt14, zt15, zt16, zt17, zt18, zt19, zt20, zt21, zt22, zt23, zsi, zsr, zsl, zsu, zs1, zs2, zs3, zs4, zs5, zs6, zs7, zs8, zs9, zs10, zs11, zs12, zs13, zp0, zp1, zp2, zp3, zp4, zp5, zp6, zm0, zm1, zm2, zm3, zm4, zty0, zty2, zty3, zty10, zty11, zkin_self, ztab_self, zup_app, bx_uu, Option.map_some, decide_eq_true_eq, if_true, if_false, ite_true, ite_false, true_and, and_true, Option.toList_some, Option.toList_none, List.cons_append, List.nil_append, reduceIte, List.length_cons, List.length_nil, Nat.reduceAdd, Nat.reduceLT, Nat.reduceEqDiff, Nat.reduceLeDiff, and_self, not_true_eq_false, not_false_eq_true, Int32.reduceSub, Int32.reduceAdd, Int32.reduceToNatClampNeg, Int32.reduceLE, Int32.reduceLT]
            refine tM_street_80 _ _ _ ?_
            simp only [bM_street_80, e_const, e_lconst, e_iload, e_aload, e_lload, e_istore, e_astore, e_lstore, e_iinc, e_bin, e_un, e_div, e_mm, e_ladd, e_lcmp, e_dupi, e_dupr, e_dup2, e_popi, e_goto, e_if, e_icmp, e_sw, e_ret, e_zret0, e_zret1, e_zretb, bI_0, bI_1, bI_t, bI_f, i32_10, i32_01, e_lret, e_vret, e_getf, e_putf, e_iald, e_bald, e_aald, e_alen, e_iast, e_bast, e_aast, e_acopy, e_callS, e_callV, e_callI, e_obj, zg0, zg1, zg2, zg3, zg4, zg5, zg6, zg7, zg8, zg9, zg10, zg11, zg12, zg13, zg14, zg15, zg16, zg17, zg18, zg19, zg20, zg21, zg22, zg23, zt0, zt1, zt2, zt3, zt4, zt5, zt6, zt7, zt8, zt9, zt10, zt11, zt12, zt13, zt14, zt15, zt16, zt17, zt18, zt19, zt20, zt21, zt22, zt23, zsi, zsr, zsl, zsu, zs1, zs2, zs3, zs4, zs5, zs6, zs7, zs8, zs9, zs10, zs11, zs12, zs13, zp0, zp1, zp2, zp3, zp4, zp5, zp6, zm0, zm1, zm2, zm3, zm4, zty0, zty2, zty3, zty10, zty11, zkin_self, ztab_self, zup_app, bx_uu, Option.map_some, decide_eq_true_eq, if_true, if_false, ite_true, ite_false, true_and, and_true, Option.toList_some, Option.toList_none, List.cons_append, List.nil_append, reduceIte, List.length_cons, List.length_nil, Nat.reduceAdd, Nat.reduceLT, Nat.reduceEqDiff, Nat.reduceLeDiff, and_self, not_true_eq_false, not_false_eq_true, Int32.reduceSub, Int32.reduceAdd, Int32.reduceToNatClampNeg, Int32.reduceLE, Int32.reduceLT]
            refine tM_street_81 _ _ _ ?_
            simp only [bM_street_81, h1682, mQ, e_const, e_lconst, e_iload, e_aload, e_lload, e_istore, e_astore, e_lstore, e_iinc, e_bin, e_un, e_div, e_mm, e_ladd, e_lcmp, e_dupi, e_dupr, e_dup2, e_popi, e_goto, e_if, e_icmp, e_sw, e_ret, e_zret0, e_zret1, e_zretb, bI_0, bI_1, bI_t, bI_f, i32_10, i32_01, e_lret, e_vret, e_getf, e_putf, e_iald, e_bald, e_aald, e_alen, e_iast, e_bast, e_aast, e_acopy, e_callS, e_callV, e_callI, e_obj, zg0, zg1, zg2, zg3, zg4, zg5, zg6, zg7, zg8, zg9, zg10, zg11, zg12, zg13, zg14, zg15, zg16, zg17, zg18, zg19, zg20, zg21, zg22, zg23, zt0, zt1, zt2, zt3, zt4, zt5, zt6, zt7, zt8, zt9, zt10, zt11, zt12, zt13, zt14, zt15, zt16, zt17, zt18, zt19, zt20, zt21, zt22, zt23, zsi, zsr, zsl, zsu, zs1, zs2, zs3, zs4, zs5, zs6, zs7, zs8, zs9, zs10, zs11, zs12, zs13, zp0, zp1, zp2, zp3, zp4, zp5, zp6, zm0, zm1, zm2, zm3, zm4, zty0, zty2, zty3, zty10, zty11, zkin_self, ztab_self, zup_app, bx_uu, Option.map_some, decide_eq_true_eq, if_true, if_false, ite_true, ite_false, true_and, and_true, Option.toList_some, Option.toList_none, List.cons_append, List.nil_append, reduceIte, List.length_cons, List.length_nil, Nat.reduceAdd, Nat.reduceLT, Nat.reduceEqDiff, Nat.reduceLeDiff, and_self, not_true_eq_false, not_false_eq_true, Int32.reduceSub, Int32.reduceAdd, Int32.reduceToNatClampNeg, Int32.reduceLE, Int32.reduceLT]
            refine ⟨_, r3, ?_⟩
            simp only [nI_1, e_const, e_lconst, e_iload, e_aload, e_lload, e_istore, e_astore, e_lstore, e_iinc, e_bin, e_un, e_div, e_mm, e_ladd, e_lcmp, e_dupi, e_dupr, e_dup2, e_popi, e_goto, e_if, e_icmp, e_sw, e_ret, e_zret0, e_zret1, e_zretb, bI_0, bI_1, bI_t, bI_f, i32_10, i32_01, e_lret, e_vret, e_getf, e_putf, e_iald, e_bald, e_aald, e_alen, e_iast, e_bast, e_aast, e_acopy, e_callS, e_callV, e_callI, e_obj, zg0, zg1, zg2, zg3, zg4, zg5, zg6, zg7, zg8, zg9, zg10, zg11, zg12, zg13, zg14, zg15, zg16, zg17, zg18, zg19, zg20, zg21, zg22, zg23, zt0, zt1, zt2, zt3, zt4, zt5, zt6, zt7, zt8, zt9, zt10, zt11, zt12, zt13, zt14, zt15, zt16, zt17, zt18, zt19, zt20, zt21, zt22, zt23, zsi, zsr, zsl, zsu, zs1, zs2, zs3, zs4, zs5, zs6, zs7, zs8, zs9, zs10, zs11, zs12, zs13, zp0, zp1, zp2, zp3, zp4, zp5, zp6, zm0, zm1, zm2, zm3, zm4, zty0, zty2, zty3, zty10, zty11, zkin_self, ztab_self, zup_app, bx_uu, Option.map_some, decide_eq_true_eq, if_true, if_false, ite_true, ite_false, true_and, and_true, Option.toList_some, Option.toList_none, List.cons_append, List.nil_append, reduceIte, List.length_cons, List.length_nil, Nat.reduceAdd, Nat.reduceLT, Nat.reduceEqDiff, Nat.reduceLeDiff, and_self, not_true_eq_false, not_false_eq_true, Int32.reduceSub, Int32.reduceAdd, Int32.reduceToNatClampNeg, Int32.reduceLE, Int32.reduceLT]
            refine tM_street_88 _ _ _ ?_
            simp only [bM_street_88, e_const, e_lconst, e_iload, e_aload, e_lload, e_istore, e_astore, e_lstore, e_iinc, e_bin, e_un, e_div, e_mm, e_ladd, e_lcmp, e_dupi, e_dupr, e_dup2, e_popi, e_goto, e_if, e_icmp, e_sw, e_ret, e_zret0, e_zret1, e_zretb, bI_0, bI_1, bI_t, bI_f, i32_10, i32_01, e_lret, e_vret, e_getf, e_putf, e_iald, e_bald, e_aald, e_alen, e_iast, e_bast, e_aast, e_acopy, e_callS, e_callV, e_callI, e_obj, zg0, zg1, zg2, zg3, zg4, zg5, zg6, zg7, zg8, zg9, zg10, zg11, zg12, zg13, zg14, zg15, zg16, zg17, zg18, zg19, zg20, zg21, zg22, zg23, zt0, zt1, zt2, zt3, zt4, zt5, zt6, zt7, zt8, zt9, zt10, zt11, zt12, zt13, zt14, zt15, zt16, zt17, zt18, zt19, zt20, zt21, zt22, zt23, zsi, zsr, zsl, zsu, zs1, zs2, zs3, zs4, zs5, zs6, zs7, zs8, zs9, zs10, zs11, zs12, zs13, zp0, zp1, zp2, zp3, zp4, zp5, zp6, zm0, zm1, zm2, zm3, zm4, zty0, zty2, zty3, zty10, zty11, zkin_self, ztab_self, zup_app, bx_uu, Option.map_some, decide_eq_true_eq, if_true, if_false, ite_true, ite_false, true_and, and_true, Option.toList_some, Option.toList_none, List.cons_append, List.nil_append, reduceIte, List.length_cons, List.length_nil, Nat.reduceAdd, Nat.reduceLT, Nat.reduceEqDiff, Nat.reduceLeDiff, and_self, not_true_eq_false, not_false_eq_true, Int32.reduceSub, Int32.reduceAdd, Int32.reduceToNatClampNeg, Int32.reduceLE, Int32.reduceLT]
            exact hF
        cases e3 : enS T n σ2 with
        | inl p =>
          rw [e3] at hm3 hok
          have hm3 : p ≤ n ∧ fa3 = nI p := hm3
          obtain ⟨hp, rfl⟩ := hm3
          refine ⟨M3, nI (i + 1), .int so, ⟨fr03, Or.inl ⟨p, rfl, hp, mT_fr t2 (fun k a b => fr3 k (by omega)), _, _, _, _, _, h1683⟩⟩, fun F hF => run F ?_⟩
          refine tM_street_21 _ _ _ ?_
          simp only [bM_street_21, h1683, mQ, n9_ne (h := p) (by omega), e_const, e_lconst, e_iload, e_aload, e_lload, e_istore, e_astore, e_lstore, e_iinc, e_bin, e_un, e_div, e_mm, e_ladd, e_lcmp, e_dupi, e_dupr, e_dup2, e_popi, e_goto, e_if, e_icmp, e_sw, e_ret, e_zret0, e_zret1, e_zretb, bI_0, bI_1, bI_t, bI_f, i32_10, i32_01, e_lret, e_vret, e_getf, e_putf, e_iald, e_bald, e_aald, e_alen, e_iast, e_bast, e_aast, e_acopy, e_callS, e_callV, e_callI, e_obj, zg0, zg1, zg2, zg3, zg4, zg5, zg6, zg7, zg8, zg9, zg10, zg11, zg12, zg13, zg14, zg15, zg16, zg17, zg18, zg19, zg20, zg21, zg22, zg23, zt0, zt1, zt2, zt3, zt4, zt5, zt6, zt7, zt8, zt9, zt10, zt11, zt12, zt13, zt14, zt15, zt16, zt17, zt18, zt19, zt20, zt21, zt22, zt23, zsi, zsr, zsl, zsu, zs1, zs2, zs3, zs4, zs5, zs6, zs7, zs8, zs9, zs10, zs11, zs12, zs13, zp0, zp1, zp2, zp3, zp4, zp5, zp6, zm0, zm1, zm2, zm3, zm4, zty0, zty2, zty3, zty10, zty11, zkin_self, ztab_self, zup_app, bx_uu, Option.map_some, decide_eq_true_eq, if_true, if_false, ite_true, ite_false, true_and, and_true, Option.toList_some, Option.toList_none, List.cons_append, List.nil_append, reduceIte, List.length_cons, List.length_nil, Nat.reduceAdd, Nat.reduceLT, Nat.reduceEqDiff, Nat.reduceLeDiff, and_self, not_true_eq_false, not_false_eq_true, Int32.reduceSub, Int32.reduceAdd, Int32.reduceToNatClampNeg, Int32.reduceLE, Int32.reduceLT]
          exact hF
        | inr a3 =>
          rw [e3] at s3 hok
          have hok : _ ≤ a3 ∧ a3 ≤ n ∧ wfD D2 := hok
          have hst : stS T n σ2 = true := by
            cases q : stS T n σ2 with
            | true => rfl
            | false =>
              exfalso
              unfold enS at e3
              rw [q] at e3
              cases σ2 with
              | inl p => cases e3
              | inr a => cases e3
          obtain ⟨hB2, hlt2⟩ := u2 hst
          obtain ⟨M4, x, y, ⟨fr4, post⟩, k4⟩ := ih a3 (i + 1) D2 M3 lt2 (.int so) (by omega) s3 ((fr03 169 (by omega) (by omega)).trans h169) (mB_fr hB2 (fun k a b => fr3 k (by omega))) hok.2.2 hlt2 (Or.inr ⟨so, rfl⟩)
          exact ⟨M4, x, y, ⟨fun k u v => (fr4 k u v).trans (fr03 k u v), post⟩, fun F hF => run F (k4 F hF)⟩
end MS
