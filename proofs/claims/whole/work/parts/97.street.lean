theorem gN_w {np b : Nat} {v w : Nat → Int32} {M : zHp} (h : gN np b v M) (e : ∀ j, j < min np 6 → v j = w j ∧ v (6 + j) = w (6 + j) ∧ v (12 + j) = w (12 + j)) (e18 : v 18 = w 18) (e19 : v 19 = w 19) (e20 : v 20 = w 20) (e21 : v 21 = w 21) : gN np b w M := by
  obtain ⟨h1, ⟨f1, a1, b1⟩, ⟨f2, a2, b2⟩, f3, a3, b3⟩ := h
  refine ⟨?_, ⟨f1, a1, fun j hj => (b1 j hj).trans (e j hj).1⟩, ⟨f2, a2, fun j hj => (b2 j hj).trans (e j hj).2.1⟩, f3, a3, fun j hj => (b3 j hj).trans (e j hj).2.2⟩
  rw [← e18, ← e19, ← e20, ← e21]
  exact h1
theorem gN_any {np b : Nat} {v : Nat → Int32} {M : zHp} (nq : Nat) (h : gN np b v M) : ∃ w, gN nq b w M := by
  obtain ⟨h1, ⟨f1, a1, b1⟩, ⟨f2, a2, b2⟩, f3, a3, b3⟩ := h
  refine ⟨fun k => if k < 6 then f1 k else if k < 12 then f2 (k - 6) else if k < 18 then f3 (k - 12) else v k, h1, ⟨f1, a1, fun j hj => ?_⟩, ⟨f2, a2, fun j hj => ?_⟩, f3, a3, fun j hj => ?_⟩
  · show f1 j = if j < 6 then f1 j else _
    rw [if_pos (by omega)]
  · show f2 j = if 6 + j < 6 then _ else if 6 + j < 12 then f2 (6 + j - 6) else _
    rw [if_neg (by omega), if_pos (by omega), show 6 + j - 6 = j by omega]
  · show f3 j = if 12 + j < 6 then _ else if 12 + j < 12 then _ else if 12 + j < 18 then f3 (12 + j - 12) else _
    rw [if_neg (by omega), if_neg (by omega), if_pos (by omega), show 12 + j - 12 = j by omega]
theorem gL_any {np a kn : Nat} {v : Nat → Int32} {M : zHp} (nq : Nat) (h : gL np a v kn M) : ∃ w, gL nq a w kn M := by
  obtain ⟨h0, h1, h2, π, h3, h4, h5, h6, h7⟩ := h
  obtain ⟨u0, hu0⟩ := gN_any nq h2
  have h6' : ∀ i, ∃ u, i < 10 → gN nq (a + 6 + 4 * π i) u M := by
    intro i
    by_cases c : i < 10
    · obtain ⟨u, hu⟩ := h6 i c
      obtain ⟨w, hw⟩ := gN_any nq hu
      exact ⟨w, fun _ => hw⟩
    · exact ⟨fun _ => 0, fun q => absurd q c⟩
  obtain ⟨U, hU⟩ := Classical.axiomOfChoice h6'
  refine ⟨fun k => if k < 22 then u0 k else U ((k - 23) / 22) ((k - 23) % 22), h0, h1, gN_v hu0 (fun k hk => ?_), π, h3, h4, h5, fun i hi => ⟨U i, hU i hi⟩, fun i hi => gN_v (hU i (by omega)) (fun k hk => ?_)⟩
  · show u0 k = if k < 22 then u0 k else _
    rw [if_pos hk]
  · show U i k = if 23 + 22 * i + k < 22 then _ else U ((23 + 22 * i + k - 23) / 22) ((23 + 22 * i + k - 23) % 22)
    rw [if_neg (by omega), show (23 + 22 * i + k - 23) / 22 = i by omega, show (23 + 22 * i + k - 23) % 22 = k by omega]
section SC
variable {M : zHp} {N S d n hn nh np : Nat} {tr : Int64} {fx tx hall er tp nw hh hm : Nat → Int32} {tax warm : Int32} {T : Nat → Nat} {D : Nat → Nat}
theorem sT_become (hd : dC D M) (hT : gT nh np hall er tp tax warm M) : ∃ M', zRuns d mT_become [.ref 9, .ref 4] M N S (none, M', N, S) ∧ (∀ k, ¬ (9 ≤ k ∧ k ≤ 13) → M' k = M k) ∧ ∃ hall' h11 er' tp', gT (D 0) (D 1) hall' er' tp' (nI (D 2)) (nI (D 3)) M' ∧ M' 11 = .inl (0, 6, .inl h11) ∧ (D 0 ≤ 9 → ∀ j, j < D 0 → hall' j = nI (D (10 + j))) ∧ (D 1 ≤ 6 → ∀ j, j < D 1 → h11 j = nI (D (20 + j)) ∧ er' j = nI (D (30 + j)) ∧ tp' j = nI (D (40 + j))) := by
  obtain ⟨h4, ⟨f5, h5, g5⟩, ⟨f6, h6, g6⟩, ⟨f7, h7, g7⟩, f8, h8, g8⟩ := hd
  obtain ⟨h9, h10, ⟨f11, h11⟩, h12, h13⟩ := hT
  refine ⟨va_up (va_up (va_up (va_up (va_up M 10 (.inl (0, 9, .inl (va_cpy f5 hall 0 0 9)))) 11 (.inl (0, 6, .inl (va_cpy f6 f11 0 0 6)))) 12 (.inl (0, 6, .inl (va_cpy f7 er 0 0 6)))) 13 (.inl (0, 6, .inl (va_cpy f8 tp 0 0 6)))) 9 (.inr (10, [.ref 10, .ref 11, .ref 12, .ref 13, .int (nI (D 0)), .int (nI (D 1)), .int (nI (D 2)), .int (nI (D 3))])), ?_, fun k hk => ?_, _, _, _, _, ⟨rfl, rfl, ⟨_, rfl⟩, rfl, rfl⟩, rfl, fun q j hj => ?_, fun q j hj => ⟨?_, ?_, ?_⟩⟩
  · refine zenter (n := 0) kT_become rfl rfl ?_
    refine tT_become_0 _ _ _ ?_
    simp only [bT_become_0, h4, h5, h6, h7, h8, h9, h10, h11, h12, h13, show ((9 : Int32) < 0) = False by decide, show ((6 : Int32) < 0) = False by decide, show ((0 : Int32) < 0) = False by decide, e_const, e_lconst, e_iload, e_aload, e_lload, e_istore, e_astore, e_lstore, e_iinc, e_bin, e_un, e_div, e_mm, e_ladd, e_lcmp, e_dupi, e_dupr, e_dup2, e_popi, e_goto, e_if, e_icmp, e_sw, e_ret, e_zret0, e_zret1, e_zretb, bI_0, bI_1, bI_t, bI_f, i32_10, i32_01, e_lret, e_vret, e_getf, e_putf, e_iald, e_bald, e_aald, e_alen, e_iast, e_bast, e_aast, e_acopy, e_callS, e_callV, e_callI, e_obj, zg0, zg1, zg2, zg3, zg4, zg5, zg6, zg7, zg8, zg9, zg10, zg11, zg12, zg13, zg14, zg15, zg16, zg17, zg18, zg19, zg20, zg21, zg22, zg23, zt0, zt1, zt2, zt3, zt4, zt5, zt6, zt7, zt8, zt9, zt10, zt11, zt12, zt13, zt14, zt15, zt16, zt17, zt18, zt19, zt20, zt21, zt22, zt23, zsi, zsr, zsl, zsu, zs1, zs2, zs3, zs4, zs5, zs6, zs7, zs8, zs9, zs10, zs11, zs12, zs13, zp0, zp1, zp2, zp3, zp4, zp5, zp6, zm0, zm1, zm2, zm3, zm4, zty0, zty2, zty3, zty10, zty11, zkin_self, ztab_self, zup_app, bx_uu, Option.map_some, decide_eq_true_eq, if_true, if_false, ite_true, ite_false, true_and, and_true, Option.toList_some, Option.toList_none, List.cons_append, List.nil_append, reduceIte, List.length_cons, List.length_nil, Nat.reduceAdd, Nat.reduceLT, Nat.reduceEqDiff, Nat.reduceLeDiff, and_self, not_true_eq_false, not_false_eq_true, Int32.reduceSub, Int32.reduceAdd, Int32.reduceToNatClampNeg, Int32.reduceLE, Int32.reduceLT]
  · simp only [zup_app]
    rw [if_neg (by omega), if_neg (by omega), if_neg (by omega), if_neg (by omega), if_neg (by omega)]
  · rw [sb_cpy0 (by omega)]; exact g5 j hj
  · rw [sb_cpy0 (by omega)]; exact g6 j hj
  · rw [sb_cpy0 (by omega)]; exact g7 j hj
  · rw [sb_cpy0 (by omega)]; exact g8 j hj
theorem sL_begin {nq kn : Nat} {u h11 : Nat → Int32} (hL : gL nq 14 u kn M) (hT : gT nh np hall er tp tax warm M) (e11 : M 11 = .inl (0, 6, .inl h11)) (hp : np ≤ 6) : ∃ M', zRuns (d + 1) mL_begin [.ref 14, .ref 9] M N S (none, M', N, S) ∧ (∀ k, ¬ (14 ≤ k ∧ k ≤ 18) → M' k = M k) ∧ ∀ w : Nat → Int32, (∀ j, j < np → w j = h11 j ∧ w (6 + j) = h11 j ∧ w (12 + j) = tp j) → w 18 = 0 → w 19 = 0 → w 20 = 0 → w 21 = -9 → gL np 14 w 0 M' := by
  obtain ⟨h0, h1, h2, π, h3, h4, h5, h6, h7⟩ := hL
  have h9 := hT.1
  have h15 := h2.1
  obtain ⟨M1, r, fr, g⟩ := sN_begin (d := d) (N := N) (S := S) h2 hT e11
  have h14 := (fr 14 (by omega)).trans h1
  refine ⟨va_up M1 14 (.inr (5, [.ref 15, .ref 19, .int 0])), ?_, fun k hk => by simp only [zup_app]; rw [if_neg (by omega)]; exact fr k (by omega), fun w hw w18 w19 w20 w21 => ⟨by omega, rfl, ?_, π, ?_, h4, h5, fun i hi => ?_, fun i hi => by omega⟩⟩
  · refine zenter (n := 0) kL_begin rfl rfl ?_
    repeat' (first | (refine zstep uL_begin [] (by decide) rfl ?_; simp only [h1, h15, h14, bL_begin_0, e_const, e_lconst, e_iload, e_aload, e_lload, e_istore, e_astore, e_lstore, e_iinc, e_bin, e_un, e_div, e_mm, e_ladd, e_lcmp, e_dupi, e_dupr, e_dup2, e_popi, e_goto, e_if, e_icmp, e_sw, e_ret, e_zret0, e_zret1, e_zretb, bI_0, bI_1, bI_t, bI_f, i32_10, i32_01, e_lret, e_vret, e_getf, e_putf, e_iald, e_bald, e_aald, e_alen, e_iast, e_bast, e_aast, e_acopy, e_callS, e_callV, e_callI, e_obj, zg0, zg1, zg2, zg3, zg4, zg5, zg6, zg7, zg8, zg9, zg10, zg11, zg12, zg13, zg14, zg15, zg16, zg17, zg18, zg19, zg20, zg21, zg22, zg23, zt0, zt1, zt2, zt3, zt4, zt5, zt6, zt7, zt8, zt9, zt10, zt11, zt12, zt13, zt14, zt15, zt16, zt17, zt18, zt19, zt20, zt21, zt22, zt23, zsi, zsr, zsl, zsu, zs1, zs2, zs3, zs4, zs5, zs6, zs7, zs8, zs9, zs10, zs11, zs12, zs13, zp0, zp1, zp2, zp3, zp4, zp5, zp6, zm0, zm1, zm2, zm3, zm4, zty0, zty2, zty3, zty10, zty11, zkin_self, ztab_self, zup_app, bx_uu, Option.map_some, decide_eq_true_eq, if_true, if_false, ite_true, ite_false, true_and, and_true, Option.toList_some, Option.toList_none, List.cons_append, List.nil_append, reduceIte, List.length_cons, List.length_nil, Nat.reduceAdd, Nat.reduceLT, Nat.reduceEqDiff, Nat.reduceLeDiff, and_self, not_true_eq_false, not_false_eq_true, Int32.reduceSub, Int32.reduceAdd, Int32.reduceToNatClampNeg, Int32.reduceLE, Int32.reduceLT]) | (exact True.intro) | (refine ite_in ?_ ?_ <;> intro _) | (refine ⟨_, r, ?_⟩; simp only [h1, h15, h14, e_const, e_lconst, e_iload, e_aload, e_lload, e_istore, e_astore, e_lstore, e_iinc, e_bin, e_un, e_div, e_mm, e_ladd, e_lcmp, e_dupi, e_dupr, e_dup2, e_popi, e_goto, e_if, e_icmp, e_sw, e_ret, e_zret0, e_zret1, e_zretb, bI_0, bI_1, bI_t, bI_f, i32_10, i32_01, e_lret, e_vret, e_getf, e_putf, e_iald, e_bald, e_aald, e_alen, e_iast, e_bast, e_aast, e_acopy, e_callS, e_callV, e_callI, e_obj, zg0, zg1, zg2, zg3, zg4, zg5, zg6, zg7, zg8, zg9, zg10, zg11, zg12, zg13, zg14, zg15, zg16, zg17, zg18, zg19, zg20, zg21, zg22, zg23, zt0, zt1, zt2, zt3, zt4, zt5, zt6, zt7, zt8, zt9, zt10, zt11, zt12, zt13, zt14, zt15, zt16, zt17, zt18, zt19, zt20, zt21, zt22, zt23, zsi, zsr, zsl, zsu, zs1, zs2, zs3, zs4, zs5, zs6, zs7, zs8, zs9, zs10, zs11, zs12, zs13, zp0, zp1, zp2, zp3, zp4, zp5, zp6, zm0, zm1, zm2, zm3, zm4, zty0, zty2, zty3, zty10, zty11, zkin_self, ztab_self, zup_app, bx_uu, Option.map_some, decide_eq_true_eq, if_true, if_false, ite_true, ite_false, true_and, and_true, Option.toList_some, Option.toList_none, List.cons_append, List.nil_append, reduceIte, List.length_cons, List.length_nil, Nat.reduceAdd, Nat.reduceLT, Nat.reduceEqDiff, Nat.reduceLeDiff, and_self, not_true_eq_false, not_false_eq_true, Int32.reduceSub, Int32.reduceAdd, Int32.reduceToNatClampNeg, Int32.reduceLE, Int32.reduceLT]) | (refine zsw_in ?_ ?_ <;> (first | (intro e0; subst e0) | intro _)) | (refine zsw_out ?_))
  · refine gN_fr (gN_w g (fun j hj => ?_) ?_ ?_ ?_ ?_) (fun k a b => by simp only [zup_app]; rw [if_neg (by omega)])
    · obtain ⟨q1, q2, q3⟩ := hw j (by omega)
      refine ⟨?_, ?_, ?_⟩
      · rw [q1]
        unfold fBeg
        rw [if_pos (by omega)]
      · rw [q2]
        unfold fBeg
        rw [if_neg (by omega), if_pos (by omega), show 6 + j - 6 = j by omega]
      · rw [q3]
        unfold fBeg
        rw [if_neg (by omega), if_neg (by omega), if_pos (by omega), show 12 + j - 12 = j by omega]
    · rw [w18]; rfl
    · rw [w19]; rfl
    · rw [w20]; rfl
    · rw [w21]; rfl
  · simp only [zup_app]
    rw [if_neg (by omega)]
    exact (fr 19 (by omega)).trans h3
  · obtain ⟨x, hx⟩ := h6 i hi
    have := h4 i hi
    obtain ⟨y, hy⟩ := gN_any np hx
    exact ⟨y, gN_fr hy (fun k a b => by simp only [zup_app]; rw [if_neg (by omega)]; exact fr k (by omega))⟩
theorem m10_neg {p : Nat} (h : p ≤ 150) : (0 ≤ (-10 : Int32) - nI p) = False := by
  refine eq_false (fun q => ?_)
  rw [fx_le, Int32.toInt_sub, nI_toInt (by omega)] at q
  have h1 : (0 : Int32).toInt = 0 := rfl
  have h2 : (-10 : Int32).toInt = -10 := rfl
  rw [h1, h2, Int.bmod_eq_of_le (by omega) (by omega)] at q
  omega
theorem sM_street {ty : Nat} (hO : mO tr ty hn M) (hXX : M 169 = .inl (1, 150, .inl fx)) (hX : ∀ j, j < ty → fx j &&& 255 = nI (T j)) (hT : ∀ j, j < ty → T j < 256) (hn' : ty ≤ 150) (hTT : mT nh np hall er tp tax warm M) (hN : mN nw M) {k0 k1 : Bool} (hK : mK k0 k1 M) (hb : nh ≤ 9) (hb2 : np ≤ 6) : ∃ M' w, zRuns (d + 6) mM_street [.ref 168] M N S (some (.int w), M', N, S) ∧ (∀ k, ¬ k = 168 → ¬ (170 ≤ k ∧ k ≤ 178) → M' k = M k) ∧ ((∃ p, pAll T ty (ty + 1) 0 0 D0 = .inl p ∧ p ≤ ty ∧ w = -10 - nI p ∧ mT nh np hall er tp tax warm M' ∧ mO tr ty hn M' ∧ M' 177 = M 177 ∧ M' 178 = M 178) ∨ ∃ i D, pAll T ty (ty + 1) 0 0 D0 = .inr (i, D) ∧ w = nI i ∧ wfD D ∧ mO tr 0 0 M' ∧ mT (D 0) (D 1) (fun j => nI (D (10 + j))) (fun j => nI (D (30 + j))) (fun j => nI (D (40 + j))) (nI (D 2)) (nI (D 3)) M' ∧ mK false false M' ∧ ∃ nw', mN nw' M' ∧ (∀ j, j < D 1 → nw' j = nI (D (20 + j)) ∧ nw' (6 + j) = nI (D (20 + j)) ∧ nw' (12 + j) = nI (D (40 + j))) ∧ nw' 18 = 0 ∧ nw' 19 = 0 ∧ nw' 20 = 0 ∧ nw' 21 = -9 ∧ nw' 22 = 0) := by
  obtain ⟨lt, a, b, c, e, u, h168⟩ := hO
  have frI : ∀ k, ¬ k = 168 → va_up M 168 (mQ tr ty lt 0 b c e (-9) hn) k = M k := fun k hk => by simp only [zup_app]; rw [if_neg hk]
  obtain ⟨M1, r1, fr1, q1, hB1⟩ := sM_plain (d := d + 5) (N := N) (S := S) (M := va_up M 168 (mQ tr ty lt 0 b c e (-9) hn)) (tr := tr) (n := ty) (lt := lt) (A := 0) (st := b) (so := c) (va := e) (fa := -9) (hn := hn) rfl (mT_fr hTT (fun k a b => frI k (by omega)))
  have q1 : M1 168 = mQ tr ty 0 (nI 0) b c e (-9) hn := q1
  have h1691 : M1 169 = .inl (1, 150, .inl fx) := ((fr1 169 (by omega) (by omega)).trans (frI 169 (by omega))).trans hXX
  obtain ⟨so', va', hk, r2⟩ := sM_step (d := d + 4) (N := N) (S := S) q1 h1691 hX hT hn' (Nat.zero_le _)
  have fr2 : ∀ k, ¬ k = 168 → va_up M1 168 (mQ tr ty 0 (nI (tkN T ty (tkS T ty 0))) (nI (tkS T ty 0)) so' va' (-9) hn) k = M1 k := fun k hk => by simp only [zup_app]; rw [if_neg hk]
  obtain ⟨M3, x, y, ⟨fr3, post⟩, k3⟩ := sM_stLoop (d := d) (N := N) (S := S) (tr := tr) (hn := hn) hX hT hn' hb hb2 (ty + 1) 0 0 D0 (va_up M1 168 (mQ tr ty 0 (nI (tkN T ty (tkS T ty 0))) (nI (tkS T ty 0)) so' va' (-9) hn)) 0 (.retAddr 0) (by omega) ⟨_, _, _, _, _, rfl, Nat.zero_le _, rfl, rfl, rfl, hk⟩ ((fr2 169 (by omega)).trans h1691) (mB_fr hB1 (fun k a b => fr2 k (by omega))) wf0 rfl (Or.inl rfl)
  have fr03 : ∀ k, ¬ k = 168 → ¬ (170 ≤ k ∧ k ≤ 176) → M3 k = M k := fun k u v => (fr3 k u v).trans ((fr2 k u).trans ((fr1 k u v).trans (frI k u)))
  have run : ∀ F : zF, zGo (d + 6) mM_street 91 ([.ref 168, .int x, y], [], M3, N, S) F → zRuns (d + 6) mM_street [.ref 168] M N S F := by
    intro F hF
    refine zenter (n := 2) kM_street rfl rfl ?_
    refine tM_street_0 _ _ _ ?_
    simp only [bM_street_0, h168, mQ, List.replicate, e_const, e_lconst, e_iload, e_aload, e_lload, e_istore, e_astore, e_lstore, e_iinc, e_bin, e_un, e_div, e_mm, e_ladd, e_lcmp, e_dupi, e_dupr, e_dup2, e_popi, e_goto, e_if, e_icmp, e_sw, e_ret, e_zret0, e_zret1, e_zretb, bI_0, bI_1, bI_t, bI_f, i32_10, i32_01, e_lret, e_vret, e_getf, e_putf, e_iald, e_bald, e_aald, e_alen, e_iast, e_bast, e_aast, e_acopy, e_callS, e_callV, e_callI, e_obj, zg0, zg1, zg2, zg3, zg4, zg5, zg6, zg7, zg8, zg9, zg10, zg11, zg12, zg13, zg14, zg15, zg16, zg17, zg18, zg19, zg20, zg21, zg22, zg23, zt0, zt1, zt2, zt3, zt4, zt5, zt6, zt7, zt8, zt9, zt10, zt11, zt12, zt13, zt14, zt15, zt16, zt17, zt18, zt19, zt20, zt21, zt22, zt23, zsi, zsr, zsl, zsu, zs1, zs2, zs3, zs4, zs5, zs6, zs7, zs8, zs9, zs10, zs11, zs12, zs13, zp0, zp1, zp2, zp3, zp4, zp5, zp6, zm0, zm1, zm2, zm3, zm4, zty0, zty2, zty3, zty10, zty11, zkin_self, ztab_self, zup_app, bx_uu, Option.map_some, decide_eq_true_eq, if_true, if_false, ite_true, ite_false, true_and, and_true, Option.toList_some, Option.toList_none, List.cons_append, List.nil_append, reduceIte, List.length_cons, List.length_nil, Nat.reduceAdd, Nat.reduceLT, Nat.reduceEqDiff, Nat.reduceLeDiff, and_self, not_true_eq_false, not_false_eq_true, Int32.reduceSub, Int32.reduceAdd, Int32.reduceToNatClampNeg, Int32.reduceLE, Int32.reduceLT]
    refine ⟨_, r1, ?_⟩
    simp only [q1, mQ, e_const, e_lconst, e_iload, e_aload, e_lload, e_istore, e_astore, e_lstore, e_iinc, e_bin, e_un, e_div, e_mm, e_ladd, e_lcmp, e_dupi, e_dupr, e_dup2, e_popi, e_goto, e_if, e_icmp, e_sw, e_ret, e_zret0, e_zret1, e_zretb, bI_0, bI_1, bI_t, bI_f, i32_10, i32_01, e_lret, e_vret, e_getf, e_putf, e_iald, e_bald, e_aald, e_alen, e_iast, e_bast, e_aast, e_acopy, e_callS, e_callV, e_callI, e_obj, zg0, zg1, zg2, zg3, zg4, zg5, zg6, zg7, zg8, zg9, zg10, zg11, zg12, zg13, zg14, zg15, zg16, zg17, zg18, zg19, zg20, zg21, zg22, zg23, zt0, zt1, zt2, zt3, zt4, zt5, zt6, zt7, zt8, zt9, zt10, zt11, zt12, zt13, zt14, zt15, zt16, zt17, zt18, zt19, zt20, zt21, zt22, zt23, zsi, zsr, zsl, zsu, zs1, zs2, zs3, zs4, zs5, zs6, zs7, zs8, zs9, zs10, zs11, zs12, zs13, zp0, zp1, zp2, zp3, zp4, zp5, zp6, zm0, zm1, zm2, zm3, zm4, zty0, zty2, zty3, zty10, zty11, zkin_self, ztab_self, zup_app, bx_uu, Option.map_some, decide_eq_true_eq, if_true, if_false, ite_true, ite_false, true_and, and_true, Option.toList_some, Option.toList_none, List.cons_append, List.nil_append, reduceIte, List.length_cons, List.length_nil, Nat.reduceAdd, Nat.reduceLT, Nat.reduceEqDiff, Nat.reduceLeDiff, and_self, not_true_eq_false, not_false_eq_true, Int32.reduceSub, Int32.reduceAdd, Int32.reduceToNatClampNeg, Int32.reduceLE, Int32.reduceLT]
    refine ⟨_, r2, ?_⟩
    simp only [e_const, e_lconst, e_iload, e_aload, e_lload, e_istore, e_astore, e_lstore, e_iinc, e_bin, e_un, e_div, e_mm, e_ladd, e_lcmp, e_dupi, e_dupr, e_dup2, e_popi, e_goto, e_if, e_icmp, e_sw, e_ret, e_zret0, e_zret1, e_zretb, bI_0, bI_1, bI_t, bI_f, i32_10, i32_01, e_lret, e_vret, e_getf, e_putf, e_iald, e_bald, e_aald, e_alen, e_iast, e_bast, e_aast, e_acopy, e_callS, e_callV, e_callI, e_obj, zg0, zg1, zg2, zg3, zg4, zg5, zg6, zg7, zg8, zg9, zg10, zg11, zg12, zg13, zg14, zg15, zg16, zg17, zg18, zg19, zg20, zg21, zg22, zg23, zt0, zt1, zt2, zt3, zt4, zt5, zt6, zt7, zt8, zt9, zt10, zt11, zt12, zt13, zt14, zt15, zt16, zt17, zt18, zt19, zt20, zt21, zt22, zt23, zsi, zsr, zsl, zsu, zs1, zs2, zs3, zs4, zs5, zs6, zs7, zs8, zs9, zs10, zs11, zs12, zs13, zp0, zp1, zp2, zp3, zp4, zp5, zp6, zm0, zm1, zm2, zm3, zm4, zty0, zty2, zty3, zty10, zty11, zkin_self, ztab_self, zup_app, bx_uu, Option.map_some, decide_eq_true_eq, if_true, if_false, ite_true, ite_false, true_and, and_true, Option.toList_some, Option.toList_none, List.cons_append, List.nil_append, reduceIte, List.length_cons, List.length_nil, Nat.reduceAdd, Nat.reduceLT, Nat.reduceEqDiff, Nat.reduceLeDiff, and_self, not_true_eq_false, not_false_eq_true, Int32.reduceSub, Int32.reduceAdd, Int32.reduceToNatClampNeg, Int32.reduceLE, Int32.reduceLT]
    exact k3 F hF
  rcases post with ⟨p, e1, hp, hT3, lt3, A3, st3, so3, va3, h1683⟩ | ⟨i, D, e1, rfl, hB3, hw3, lt3, A3, st3, so3, va3, h1683⟩
  · refine ⟨M3, -10 - nI p, run _ ?_, fun k u v => fr03 k u (by omega), Or.inl ⟨p, e1, hp, rfl, hT3, ⟨_, _, _, _, _, _, h1683⟩, fr03 177 (by omega) (by omega), fr03 178 (by omega) (by omega)⟩⟩
    refine tM_street_91 _ _ _ ?_
    unfold bM_street_91
    generalize (-10 : Int32) = m10
    simp only [h1683, mQ, n9_ne (h := p) (by omega), e_const, e_lconst, e_iload, e_aload, e_lload, e_istore, e_astore, e_lstore, e_iinc, e_bin, e_un, e_div, e_mm, e_ladd, e_lcmp, e_dupi, e_dupr, e_dup2, e_popi, e_goto, e_if, e_icmp, e_sw, e_ret, e_zret0, e_zret1, e_zretb, bI_0, bI_1, bI_t, bI_f, i32_10, i32_01, e_lret, e_vret, e_getf, e_putf, e_iald, e_bald, e_aald, e_alen, e_iast, e_bast, e_aast, e_acopy, e_callS, e_callV, e_callI, e_obj, zg0, zg1, zg2, zg3, zg4, zg5, zg6, zg7, zg8, zg9, zg10, zg11, zg12, zg13, zg14, zg15, zg16, zg17, zg18, zg19, zg20, zg21, zg22, zg23, zt0, zt1, zt2, zt3, zt4, zt5, zt6, zt7, zt8, zt9, zt10, zt11, zt12, zt13, zt14, zt15, zt16, zt17, zt18, zt19, zt20, zt21, zt22, zt23, zsi, zsr, zsl, zsu, zs1, zs2, zs3, zs4, zs5, zs6, zs7, zs8, zs9, zs10, zs11, zs12, zs13, zp0, zp1, zp2, zp3, zp4, zp5, zp6, zm0, zm1, zm2, zm3, zm4, zty0, zty2, zty3, zty10, zty11, zkin_self, ztab_self, zup_app, bx_uu, Option.map_some, decide_eq_true_eq, if_true, if_false, ite_true, ite_false, true_and, and_true, Option.toList_some, Option.toList_none, List.cons_append, List.nil_append, reduceIte, List.length_cons, List.length_nil, Nat.reduceAdd, Nat.reduceLT, Nat.reduceEqDiff, Nat.reduceLeDiff, and_self, not_true_eq_false, not_false_eq_true, Int32.reduceSub, Int32.reduceAdd, Int32.reduceToNatClampNeg, Int32.reduceLE, Int32.reduceLT]
  · obtain ⟨M4, r4, fr4, q4, hT4, hK4, nw', hN4, hn1, hn2⟩ := sM_takeDraft (d := d + 5) (N := N) (S := S) (nw := nw) h1683 hB3 hw3 (mN_fr hN (fr03 177 (by omega) (by omega))) (mK_fr hK (fr03 178 (by omega) (by omega)))
    have fr5 : ∀ k, ¬ k = 168 → va_up M4 168 (mQ tr 0 lt3 A3 st3 so3 va3 (-9) 0) k = M4 k := fun k hk => by simp only [zup_app]; rw [if_neg hk]
    refine ⟨va_up M4 168 (mQ tr 0 lt3 A3 st3 so3 va3 (-9) 0), nI i, run _ ?_, fun k u v => (fr5 k u).trans ((fr4 k u v).trans (fr03 k u (by omega))), Or.inr ⟨i, D, e1, rfl, hw3, ⟨_, _, _, _, _, _, rfl⟩, mT_fr hT4 (fun k a b => fr5 k (by omega)), mK_fr hK4 (fr5 178 (by omega)), nw', mN_fr hN4 (fr5 177 (by omega)), hn1, hn2⟩⟩
    refine tM_street_91 _ _ _ ?_
    simp only [bM_street_91, h1683, mQ, e_const, e_lconst, e_iload, e_aload, e_lload, e_istore, e_astore, e_lstore, e_iinc, e_bin, e_un, e_div, e_mm, e_ladd, e_lcmp, e_dupi, e_dupr, e_dup2, e_popi, e_goto, e_if, e_icmp, e_sw, e_ret, e_zret0, e_zret1, e_zretb, bI_0, bI_1, bI_t, bI_f, i32_10, i32_01, e_lret, e_vret, e_getf, e_putf, e_iald, e_bald, e_aald, e_alen, e_iast, e_bast, e_aast, e_acopy, e_callS, e_callV, e_callI, e_obj, zg0, zg1, zg2, zg3, zg4, zg5, zg6, zg7, zg8, zg9, zg10, zg11, zg12, zg13, zg14, zg15, zg16, zg17, zg18, zg19, zg20, zg21, zg22, zg23, zt0, zt1, zt2, zt3, zt4, zt5, zt6, zt7, zt8, zt9, zt10, zt11, zt12, zt13, zt14, zt15, zt16, zt17, zt18, zt19, zt20, zt21, zt22, zt23, zsi, zsr, zsl, zsu, zs1, zs2, zs3, zs4, zs5, zs6, zs7, zs8, zs9, zs10, zs11, zs12, zs13, zp0, zp1, zp2, zp3, zp4, zp5, zp6, zm0, zm1, zm2, zm3, zm4, zty0, zty2, zty3, zty10, zty11, zkin_self, ztab_self, zup_app, bx_uu, Option.map_some, decide_eq_true_eq, if_true, if_false, ite_true, ite_false, true_and, and_true, Option.toList_some, Option.toList_none, List.cons_append, List.nil_append, reduceIte, List.length_cons, List.length_nil, Nat.reduceAdd, Nat.reduceLT, Nat.reduceEqDiff, Nat.reduceLeDiff, and_self, not_true_eq_false, not_false_eq_true, Int32.reduceSub, Int32.reduceAdd, Int32.reduceToNatClampNeg, Int32.reduceLE, Int32.reduceLT]
    refine tM_street_108 _ _ _ ?_
    simp only [bM_street_108, h1683, mQ, e_const, e_lconst, e_iload, e_aload, e_lload, e_istore, e_astore, e_lstore, e_iinc, e_bin, e_un, e_div, e_mm, e_ladd, e_lcmp, e_dupi, e_dupr, e_dup2, e_popi, e_goto, e_if, e_icmp, e_sw, e_ret, e_zret0, e_zret1, e_zretb, bI_0, bI_1, bI_t, bI_f, i32_10, i32_01, e_lret, e_vret, e_getf, e_putf, e_iald, e_bald, e_aald, e_alen, e_iast, e_bast, e_aast, e_acopy, e_callS, e_callV, e_callI, e_obj, zg0, zg1, zg2, zg3, zg4, zg5, zg6, zg7, zg8, zg9, zg10, zg11, zg12, zg13, zg14, zg15, zg16, zg17, zg18, zg19, zg20, zg21, zg22, zg23, zt0, zt1, zt2, zt3, zt4, zt5, zt6, zt7, zt8, zt9, zt10, zt11, zt12, zt13, zt14, zt15, zt16, zt17, zt18, zt19, zt20, zt21, zt22, zt23, zsi, zsr, zsl, zsu, zs1, zs2, zs3, zs4, zs5, zs6, zs7, zs8, zs9, zs10, zs11, zs12, zs13, zp0, zp1, zp2, zp3, zp4, zp5, zp6, zm0, zm1, zm2, zm3, zm4, zty0, zty2, zty3, zty10, zty11, zkin_self, ztab_self, zup_app, bx_uu, Option.map_some, decide_eq_true_eq, if_true, if_false, ite_true, ite_false, true_and, and_true, Option.toList_some, Option.toList_none, List.cons_append, List.nil_append, reduceIte, List.length_cons, List.length_nil, Nat.reduceAdd, Nat.reduceLT, Nat.reduceEqDiff, Nat.reduceLeDiff, and_self, not_true_eq_false, not_false_eq_true, Int32.reduceSub, Int32.reduceAdd, Int32.reduceToNatClampNeg, Int32.reduceLE, Int32.reduceLT]
    refine ⟨_, r4, ?_⟩
    simp only [q4, mQ, nI_0, e_const, e_lconst, e_iload, e_aload, e_lload, e_istore, e_astore, e_lstore, e_iinc, e_bin, e_un, e_div, e_mm, e_ladd, e_lcmp, e_dupi, e_dupr, e_dup2, e_popi, e_goto, e_if, e_icmp, e_sw, e_ret, e_zret0, e_zret1, e_zretb, bI_0, bI_1, bI_t, bI_f, i32_10, i32_01, e_lret, e_vret, e_getf, e_putf, e_iald, e_bald, e_aald, e_alen, e_iast, e_bast, e_aast, e_acopy, e_callS, e_callV, e_callI, e_obj, zg0, zg1, zg2, zg3, zg4, zg5, zg6, zg7, zg8, zg9, zg10, zg11, zg12, zg13, zg14, zg15, zg16, zg17, zg18, zg19, zg20, zg21, zg22, zg23, zt0, zt1, zt2, zt3, zt4, zt5, zt6, zt7, zt8, zt9, zt10, zt11, zt12, zt13, zt14, zt15, zt16, zt17, zt18, zt19, zt20, zt21, zt22, zt23, zsi, zsr, zsl, zsu, zs1, zs2, zs3, zs4, zs5, zs6, zs7, zs8, zs9, zs10, zs11, zs12, zs13, zp0, zp1, zp2, zp3, zp4, zp5, zp6, zm0, zm1, zm2, zm3, zm4, zty0, zty2, zty3, zty10, zty11, zkin_self, ztab_self, zup_app, bx_uu, Option.map_some, decide_eq_true_eq, if_true, if_false, ite_true, ite_false, true_and, and_true, Option.toList_some, Option.toList_none, List.cons_append, List.nil_append, reduceIte, List.length_cons, List.length_nil, Nat.reduceAdd, Nat.reduceLT, Nat.reduceEqDiff, Nat.reduceLeDiff, and_self, not_true_eq_false, not_false_eq_true, Int32.reduceSub, Int32.reduceAdd, Int32.reduceToNatClampNeg, Int32.reduceLE, Int32.reduceLT]
end SC
