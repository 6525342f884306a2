section LX
variable {M : zHp} {L N S d : Nat} {xs : Nat → Int32}
theorem law_loop (hL : L ≤ 320) : ∀ (n i : Nat) (M : zHp), L < i + 5 * n + 5 → i ≤ 1000 → Inv M → M 0 = .inl (0, L, .inl xs) → ∃ M', zGo (d + 12 + 1) mW_law 18 ([.ref 0, .ref 1, .ref 168, .int (nI i)], [], M, N, S) (some (.int 1), M', N, S) := by
  have t5 : (nI L - 5).toInt = (L : Int) - 5 := pk_sub_toInt (a := L) (b := 5) (by omega) (by omega)
  have ex : ∀ (i : Nat) (M : zHp), L < i + 5 → i ≤ 1000 → M 0 = .inl (0, L, .inl xs) → zGo (d + 12 + 1) mW_law 18 ([.ref 0, .ref 1, .ref 168, .int (nI i)], [], M, N, S) (some (.int 1), M, N, S) := by
    intro i M hi hb h0
    have c : (nI L - 5 < nI i) = True := eq_true (by rw [fx_lt, t5, nI_toInt (by omega)]; omega)
    refine tW_law_18 _ _ _ ?_
    simp only [bW_law_18, h0, c, Nat.zero_le, e_const, e_lconst, e_iload, e_aload, e_lload, e_istore, e_astore, e_lstore, e_iinc, e_bin, e_un, e_div, e_mm, e_ladd, e_lcmp, e_dupi, e_dupr, e_dup2, e_popi, e_goto, e_if, e_icmp, e_sw, e_ret, e_zret0, e_zret1, e_zretb, bI_0, bI_1, bI_t, bI_f, i32_10, i32_01, e_lret, e_vret, e_getf, e_putf, e_iald, e_bald, e_aald, e_alen, e_iast, e_bast, e_aast, e_acopy, e_callS, e_callV, e_callI, e_obj, zg0, zg1, zg2, zg3, zg4, zg5, zg6, zg7, zg8, zg9, zg10, zg11, zg12, zg13, zg14, zg15, zg16, zg17, zg18, zg19, zg20, zg21, zg22, zg23, zt0, zt1, zt2, zt3, zt4, zt5, zt6, zt7, zt8, zt9, zt10, zt11, zt12, zt13, zt14, zt15, zt16, zt17, zt18, zt19, zt20, zt21, zt22, zt23, zsi, zsr, zsl, zsu, zs1, zs2, zs3, zs4, zs5, zs6, zs7, zs8, zs9, zs10, zs11, zs12, zs13, zp0, zp1, zp2, zp3, zp4, zp5, zp6, zm0, zm1, zm2, zm3, zm4, zty0, zty2, zty3, zty10, zty11, zkin_self, ztab_self, zup_app, bx_uu, Option.map_some, decide_eq_true_eq, if_true, if_false, ite_true, ite_false, true_and, and_true, Option.toList_some, Option.toList_none, List.cons_append, List.nil_append, reduceIte, List.length_cons, List.length_nil, Nat.reduceAdd, Nat.reduceLT, Nat.reduceEqDiff, Nat.reduceLeDiff, and_self, not_true_eq_false, not_false_eq_true, Int32.reduceSub, Int32.reduceAdd, Int32.reduceToNatClampNeg, Int32.reduceLE, Int32.reduceLT]
    refine tW_law_844 _ _ _ ?_
    simp only [bW_law_844, e_const, e_lconst, e_iload, e_aload, e_lload, e_istore, e_astore, e_lstore, e_iinc, e_bin, e_un, e_div, e_mm, e_ladd, e_lcmp, e_dupi, e_dupr, e_dup2, e_popi, e_goto, e_if, e_icmp, e_sw, e_ret, e_zret0, e_zret1, e_zretb, bI_0, bI_1, bI_t, bI_f, i32_10, i32_01, e_lret, e_vret, e_getf, e_putf, e_iald, e_bald, e_aald, e_alen, e_iast, e_bast, e_aast, e_acopy, e_callS, e_callV, e_callI, e_obj, zg0, zg1, zg2, zg3, zg4, zg5, zg6, zg7, zg8, zg9, zg10, zg11, zg12, zg13, zg14, zg15, zg16, zg17, zg18, zg19, zg20, zg21, zg22, zg23, zt0, zt1, zt2, zt3, zt4, zt5, zt6, zt7, zt8, zt9, zt10, zt11, zt12, zt13, zt14, zt15, zt16, zt17, zt18, zt19, zt20, zt21, zt22, zt23, zsi, zsr, zsl, zsu, zs1, zs2, zs3, zs4, zs5, zs6, zs7, zs8, zs9, zs10, zs11, zs12, zs13, zp0, zp1, zp2, zp3, zp4, zp5, zp6, zm0, zm1, zm2, zm3, zm4, zty0, zty2, zty3, zty10, zty11, zkin_self, ztab_self, zup_app, bx_uu, Option.map_some, decide_eq_true_eq, if_true, if_false, ite_true, ite_false, true_and, and_true, Option.toList_some, Option.toList_none, List.cons_append, List.nil_append, reduceIte, List.length_cons, List.length_nil, Nat.reduceAdd, Nat.reduceLT, Nat.reduceEqDiff, Nat.reduceLeDiff, and_self, not_true_eq_false, not_false_eq_true, Int32.reduceSub, Int32.reduceAdd, Int32.reduceToNatClampNeg, Int32.reduceLE, Int32.reduceLT]
  intro n
  induction n with
  | zero =>
    intro i M hi hb hv h0
    exact ⟨M, ex i M (by omega) hb h0⟩
  | succ n ih =>
    intro i M hi hb hv h0
    by_cases hc : L < i + 5
    · exact ⟨M, ex i M hc hb h0⟩
    · have c : (nI L - 5 < nI i) = False := eq_false (by rw [fx_lt, t5, nI_toInt (by omega)]; omega)
      have hi5 : i + 5 ≤ L := by omega
      have K : ∀ M2, Inv M2 → M2 0 = .inl (0, L, .inl xs) → ∃ M', zGo (d + 12 + 1) mW_law 838 ([.ref 0, .ref 1, .ref 168, .int (nI i)], [], M2, N, S) (some (.int 1), M', N, S) := by
        intro M2 hv2 h02
        obtain ⟨M', g⟩ := ih (i + 5) M2 (by omega) (by omega) hv2 h02
        refine ⟨M', ?_⟩
        refine tW_law_838 _ _ _ ?_
        simp only [bW_law_838, show nI i + 5 = nI (i + 5) by rw [show (5 : Int32) = nI 5 from rfl, nI_add], e_const, e_lconst, e_iload, e_aload, e_lload, e_istore, e_astore, e_lstore, e_iinc, e_bin, e_un, e_div, e_mm, e_ladd, e_lcmp, e_dupi, e_dupr, e_dup2, e_popi, e_goto, e_if, e_icmp, e_sw, e_ret, e_zret0, e_zret1, e_zretb, bI_0, bI_1, bI_t, bI_f, i32_10, i32_01, e_lret, e_vret, e_getf, e_putf, e_iald, e_bald, e_aald, e_alen, e_iast, e_bast, e_aast, e_acopy, e_callS, e_callV, e_callI, e_obj, zg0, zg1, zg2, zg3, zg4, zg5, zg6, zg7, zg8, zg9, zg10, zg11, zg12, zg13, zg14, zg15, zg16, zg17, zg18, zg19, zg20, zg21, zg22, zg23, zt0, zt1, zt2, zt3, zt4, zt5, zt6, zt7, zt8, zt9, zt10, zt11, zt12, zt13, zt14, zt15, zt16, zt17, zt18, zt19, zt20, zt21, zt22, zt23, zsi, zsr, zsl, zsu, zs1, zs2, zs3, zs4, zs5, zs6, zs7, zs8, zs9, zs10, zs11, zs12, zs13, zp0, zp1, zp2, zp3, zp4, zp5, zp6, zm0, zm1, zm2, zm3, zm4, zty0, zty2, zty3, zty10, zty11, zkin_self, ztab_self, zup_app, bx_uu, Option.map_some, decide_eq_true_eq, if_true, if_false, ite_true, ite_false, true_and, and_true, Option.toList_some, Option.toList_none, List.cons_append, List.nil_append, reduceIte, List.length_cons, List.length_nil, Nat.reduceAdd, Nat.reduceLT, Nat.reduceEqDiff, Nat.reduceLeDiff, and_self, not_true_eq_false, not_false_eq_true, Int32.reduceSub, Int32.reduceAdd, Int32.reduceToNatClampNeg, Int32.reduceLE, Int32.reduceLT]
        exact g
      have sw : ∃ M', zGo (d + 12 + 1) mW_law (zsw [(0, 156), (1, 179), (2, 192), (3, 205), (4, 238), (5, 271), (6, 304), (7, 337), (8, 370), (9, 393), (10, 416), (11, 429), (12, 452), (13, 475), (14, 498), (15, 531), (16, 554), (17, 587), (18, 600), (19, 613), (20, 626), (21, 679), (22, 722), (23, 755), (24, 778), (25, 801), (26, 824)] 838 (xs i &&& 31)) ([.ref 0, .ref 1, .ref 168, .int (nI i)], [], M, N, S) (some (.int 1), M', N, S) := by
        refine zsw_ex (P := fun pc => ∃ M', zGo (d + 12 + 1) mW_law pc ([.ref 0, .ref 1, .ref 168, .int (nI i)], [], M, N, S) (some (.int 1), M', N, S)) (law_type hv h0 hL hi5 K) ?_
        refine zsw_ex (P := fun pc => ∃ M', zGo (d + 12 + 1) mW_law pc ([.ref 0, .ref 1, .ref 168, .int (nI i)], [], M, N, S) (some (.int 1), M', N, S)) (law_clear hv h0 hL hi5 K) ?_
        refine zsw_ex (P := fun pc => ∃ M', zGo (d + 12 + 1) mW_law pc ([.ref 0, .ref 1, .ref 168, .int (nI i)], [], M, N, S) (some (.int 1), M', N, S)) (law_street hv h0 hL hi5 K) ?_
        refine zsw_ex (P := fun pc => ∃ M', zGo (d + 12 + 1) mW_law pc ([.ref 0, .ref 1, .ref 168, .int (nI i)], [], M, N, S) (some (.int 1), M', N, S)) (law_house hv h0 hL hi5 K) ?_
        refine zsw_ex (P := fun pc => ∃ M', zGo (d + 12 + 1) mW_law pc ([.ref 0, .ref 1, .ref 168, .int (nI i)], [], M, N, S) (some (.int 1), M', N, S)) (law_person hv h0 hL hi5 K) ?_
        refine zsw_ex (P := fun pc => ∃ M', zGo (d + 12 + 1) mW_law pc ([.ref 0, .ref 1, .ref 168, .int (nI i)], [], M, N, S) (some (.int 1), M', N, S)) (law_steps hv h0 hL hi5 K) ?_
        refine zsw_ex (P := fun pc => ∃ M', zGo (d + 12 + 1) mW_law pc ([.ref 0, .ref 1, .ref 168, .int (nI i)], [], M, N, S) (some (.int 1), M', N, S)) (law_shuts hv h0 hL hi5 K) ?_
        refine zsw_ex (P := fun pc => ∃ M', zGo (d + 12 + 1) mW_law pc ([.ref 0, .ref 1, .ref 168, .int (nI i)], [], M, N, S) (some (.int 1), M', N, S)) (law_exchanges hv h0 hL hi5 K) ?_
        refine zsw_ex (P := fun pc => ∃ M', zGo (d + 12 + 1) mW_law pc ([.ref 0, .ref 1, .ref 168, .int (nI i)], [], M, N, S) (some (.int 1), M', N, S)) (law_door hv h0 hL hi5 K) ?_
        refine zsw_ex (P := fun pc => ∃ M', zGo (d + 12 + 1) mW_law pc ([.ref 0, .ref 1, .ref 168, .int (nI i)], [], M, N, S) (some (.int 1), M', N, S)) (law_calms hv h0 hL hi5 K) ?_
        refine zsw_ex (P := fun pc => ∃ M', zGo (d + 12 + 1) mW_law pc ([.ref 0, .ref 1, .ref 168, .int (nI i)], [], M, N, S) (some (.int 1), M', N, S)) (law_undo hv h0 hL hi5 K) ?_
        refine zsw_ex (P := fun pc => ∃ M', zGo (d + 12 + 1) mW_law pc ([.ref 0, .ref 1, .ref 168, .int (nI i)], [], M, N, S) (some (.int 1), M', N, S)) (law_now hv h0 hL hi5 K) ?_
        refine zsw_ex (P := fun pc => ∃ M', zGo (d + 12 + 1) mW_law pc ([.ref 0, .ref 1, .ref 168, .int (nI i)], [], M, N, S) (some (.int 1), M', N, S)) (law_homes hv h0 hL hi5 K) ?_
        refine zsw_ex (P := fun pc => ∃ M', zGo (d + 12 + 1) mW_law pc ([.ref 0, .ref 1, .ref 168, .int (nI i)], [], M, N, S) (some (.int 1), M', N, S)) (law_doorAt hv h0 hL hi5 K) ?_
        refine zsw_ex (P := fun pc => ∃ M', zGo (d + 12 + 1) mW_law pc ([.ref 0, .ref 1, .ref 168, .int (nI i)], [], M, N, S) (some (.int 1), M', N, S)) (law_fair hv h0 hL hi5 K) ?_
        refine zsw_ex (P := fun pc => ∃ M', zGo (d + 12 + 1) mW_law pc ([.ref 0, .ref 1, .ref 168, .int (nI i)], [], M, N, S) (some (.int 1), M', N, S)) (law_coffin hv h0 hL hi5 K) ?_
        refine zsw_ex (P := fun pc => ∃ M', zGo (d + 12 + 1) mW_law pc ([.ref 0, .ref 1, .ref 168, .int (nI i)], [], M, N, S) (some (.int 1), M', N, S)) (law_hats hv h0 hL hi5 K) ?_
        refine zsw_ex (P := fun pc => ∃ M', zGo (d + 12 + 1) mW_law pc ([.ref 0, .ref 1, .ref 168, .int (nI i)], [], M, N, S) (some (.int 1), M', N, S)) (law_forget hv h0 hL hi5 K) ?_
        refine zsw_ex (P := fun pc => ∃ M', zGo (d + 12 + 1) mW_law pc ([.ref 0, .ref 1, .ref 168, .int (nI i)], [], M, N, S) (some (.int 1), M', N, S)) (law_who hv h0 hL hi5 K) ?_
        refine zsw_ex (P := fun pc => ∃ M', zGo (d + 12 + 1) mW_law pc ([.ref 0, .ref 1, .ref 168, .int (nI i)], [], M, N, S) (some (.int 1), M', N, S)) (law_bread hv h0 hL hi5 K) ?_
        refine zsw_ex (P := fun pc => ∃ M', zGo (d + 12 + 1) mW_law pc ([.ref 0, .ref 1, .ref 168, .int (nI i)], [], M, N, S) (some (.int 1), M', N, S)) (law_meet hv h0 hL hi5 K) ?_
        refine zsw_ex (P := fun pc => ∃ M', zGo (d + 12 + 1) mW_law pc ([.ref 0, .ref 1, .ref 168, .int (nI i)], [], M, N, S) (some (.int 1), M', N, S)) (law_odds hv h0 hL hi5 K) ?_
        refine zsw_ex (P := fun pc => ∃ M', zGo (d + 12 + 1) mW_law pc ([.ref 0, .ref 1, .ref 168, .int (nI i)], [], M, N, S) (some (.int 1), M', N, S)) (law_mark hv h0 hL hi5 K) ?_
        refine zsw_ex (P := fun pc => ∃ M', zGo (d + 12 + 1) mW_law pc ([.ref 0, .ref 1, .ref 168, .int (nI i)], [], M, N, S) (some (.int 1), M', N, S)) (law_keep hv h0 hL hi5 K) ?_
        refine zsw_ex (P := fun pc => ∃ M', zGo (d + 12 + 1) mW_law pc ([.ref 0, .ref 1, .ref 168, .int (nI i)], [], M, N, S) (some (.int 1), M', N, S)) (law_back hv h0 hL hi5 K) ?_
        refine zsw_ex (P := fun pc => ∃ M', zGo (d + 12 + 1) mW_law pc ([.ref 0, .ref 1, .ref 168, .int (nI i)], [], M, N, S) (some (.int 1), M', N, S)) (law_count hv h0 hL hi5 K) ?_
        refine zsw_ex (P := fun pc => ∃ M', zGo (d + 12 + 1) mW_law pc ([.ref 0, .ref 1, .ref 168, .int (nI i)], [], M, N, S) (some (.int 1), M', N, S)) (law_trace hv h0 hL hi5 K) ?_
        exact K M hv h0
      obtain ⟨M', g⟩ := sw
      refine ⟨M', ?_⟩
      have zi : zix (nI i) L = some i := zix_nI (by omega) (by omega)
      refine tW_law_18 _ _ _ ?_
      simp only [bW_law_18, h0, c, zi, Nat.zero_le, e_const, e_lconst, e_iload, e_aload, e_lload, e_istore, e_astore, e_lstore, e_iinc, e_bin, e_un, e_div, e_mm, e_ladd, e_lcmp, e_dupi, e_dupr, e_dup2, e_popi, e_goto, e_if, e_icmp, e_sw, e_ret, e_zret0, e_zret1, e_zretb, bI_0, bI_1, bI_t, bI_f, i32_10, i32_01, e_lret, e_vret, e_getf, e_putf, e_iald, e_bald, e_aald, e_alen, e_iast, e_bast, e_aast, e_acopy, e_callS, e_callV, e_callI, e_obj, zg0, zg1, zg2, zg3, zg4, zg5, zg6, zg7, zg8, zg9, zg10, zg11, zg12, zg13, zg14, zg15, zg16, zg17, zg18, zg19, zg20, zg21, zg22, zg23, zt0, zt1, zt2, zt3, zt4, zt5, zt6, zt7, zt8, zt9, zt10, zt11, zt12, zt13, zt14, zt15, zt16, zt17, zt18, zt19, zt20, zt21, zt22, zt23, zsi, zsr, zsl, zsu, zs1, zs2, zs3, zs4, zs5, zs6, zs7, zs8, zs9, zs10, zs11, zs12, zs13, zp0, zp1, zp2, zp3, zp4, zp5, zp6, zm0, zm1, zm2, zm3, zm4, zty0, zty2, zty3, zty10, zty11, zkin_self, ztab_self, zup_app, bx_uu, Option.map_some, decide_eq_true_eq, if_true, if_false, ite_true, ite_false, true_and, and_true, Option.toList_some, Option.toList_none, List.cons_append, List.nil_append, reduceIte, List.length_cons, List.length_nil, Nat.reduceAdd, Nat.reduceLT, Nat.reduceEqDiff, Nat.reduceLeDiff, and_self, not_true_eq_false, not_false_eq_true, Int32.reduceSub, Int32.reduceAdd, Int32.reduceToNatClampNeg, Int32.reduceLE, Int32.reduceLT]
      exact g
/-- a new Life, its row told anew -/
theorem LI_gL {a : Nat} {v : Nat → Int32} (h : LI a M) (v18 : v 18 = 0) (v19 : v 19 = 0) (v20 : v 20 = 0) (v21 : v 21 = -9) : gL 0 a v 0 (va_up M (a + 5) (.inl (3, 10, .inr fun j => some (a + 6 + 4 * j)))) := by
  obtain ⟨h1, h2, -, h5⟩ := h
  have fr : ∀ k, ¬ k = a + 5 → va_up M (a + 5) (.inl (3, 10, .inr fun j => some (a + 6 + 4 * j))) k = M k := fun k hk => zup_ne _ _ _ hk
  have nn : ∀ (b : Nat) (w : Nat → Int32), NW b M → (b + 3 < a + 5 ∨ a + 5 < b) → w 18 = 0 → w 19 = 0 → w 20 = 0 → w 21 = -9 → gN 0 b w (va_up M (a + 5) (.inl (3, 10, .inr fun j => some (a + 6 + 4 * j)))) := by
    intro b w hb hab w18 w19 w20 w21
    obtain ⟨n0, n1, n2, n3⟩ := hb
    exact gN_new ((fr b (by omega)).trans n0) ((fr (b + 1) (by omega)).trans n1) ((fr (b + 2) (by omega)).trans n2) ((fr (b + 3) (by omega)).trans n3) (fun j hj => by omega) w18 w19 w20 w21
  exact ⟨by omega, (fr a (by omega)).trans h1, nn (a + 1) v h2 (by omega) v18 v19 v20 v21, fun j => j, zup_same _ _ _, fun i hi => hi, fun i j _ _ q => q, fun i hi => ⟨fz, nn _ fz (h5 i hi) (by omega) rfl rfl rfl rfl⟩, fun i hi => absurd hi (Nat.not_lt_zero _)⟩
/-- class and model at their first -/
theorem inv_0 {nw' fx f1 f2 : Nat → Int32} (hc : cI M) (hO : mO 0 0 0 M) (hX : M 169 = .inl (1, 150, .inl fx)) (hT : mT 0 0 (fun _ => 0) (fun _ => 0) (fun _ => 0) 12 20 M) (hK : mK false false M) (hV : mV M) (h181 : M 181 = .inl (0, 6, .inl f1)) (h182 : M 182 = .inl (0, 6, .inl f2)) (hN : mN nw' M) (w18 : nw' 18 = 0) (w19 : nw' 19 = 0) (w20 : nw' 20 = 0) (w21 : nw' 21 = -9) (w22 : nw' 22 = 0) : Inv (va_up (va_up (va_up M 19 (.inl (3, 10, .inr fun j => some (20 + 4 * j)))) 66 (.inl (3, 10, .inr fun j => some (67 + 4 * j)))) 112 (.inl (3, 10, .inr fun j => some (113 + 4 * j)))) := by
  have fr : ∀ k, ¬ k = 19 → ¬ k = 66 → ¬ k = 112 → va_up (va_up (va_up M 19 (.inl (3, 10, .inr fun j => some (20 + 4 * j)))) 66 (.inl (3, 10, .inr fun j => some (67 + 4 * j)))) 112 (.inl (3, 10, .inr fun j => some (113 + 4 * j))) k = M k := fun k x y z => by rw [zup_ne _ _ _ z, zup_ne _ _ _ y, zup_ne _ _ _ x]
  obtain ⟨h1, h2, h3, ⟨h4, h5, h6, h7, h8⟩, ⟨h9, h10, h11, h12, h13⟩, l1, l2, l3, h60, h153, ⟨h154, h155, h156, h157, h158⟩, h159, h160, h161, h162, h163, h164, h165, h166, h167⟩ := hc
  have e' : ∀ {k : Nat} {c : zAC}, M k = c → ¬ k = 19 → ¬ k = 66 → ¬ k = 112 → va_up (va_up (va_up M 19 (.inl (3, 10, .inr fun j => some (20 + 4 * j)))) 66 (.inl (3, 10, .inr fun j => some (67 + 4 * j)))) 112 (.inl (3, 10, .inr fun j => some (113 + 4 * j))) k = c := fun hc x y z => (fr _ x y z).trans hc
  have g1 : gL 0 14 nw' 0 (va_up M 19 (.inl (3, 10, .inr fun j => some (20 + 4 * j)))) := LI_gL l1 w18 w19 w20 w21
  have g2 : gL 0 61 fz 0 (va_up M 66 (.inl (3, 10, .inr fun j => some (67 + 4 * j)))) := LI_gL l2 rfl rfl rfl rfl
  have g3 : gL 0 107 fz 0 (va_up M 112 (.inl (3, 10, .inr fun j => some (113 + 4 * j)))) := LI_gL l3 rfl rfl rfl rfl
  have G1 : gL 0 14 nw' 0 (va_up (va_up (va_up M 19 (.inl (3, 10, .inr fun j => some (20 + 4 * j)))) 66 (.inl (3, 10, .inr fun j => some (67 + 4 * j)))) 112 (.inl (3, 10, .inr fun j => some (113 + 4 * j)))) := gL_fr g1 (fun k x y => by rw [zup_ne _ _ _ (by omega), zup_ne _ _ _ (by omega)])
  have G2 : gL 0 61 fz 0 (va_up (va_up (va_up M 19 (.inl (3, 10, .inr fun j => some (20 + 4 * j)))) 66 (.inl (3, 10, .inr fun j => some (67 + 4 * j)))) 112 (.inl (3, 10, .inr fun j => some (113 + 4 * j)))) := gL_fr g2 (fun k x y => by
    rw [zup_ne _ _ _ (by omega)]
    by_cases c : k = 66
    · rw [c, zup_same, zup_same]
    · rw [zup_ne _ _ _ c, zup_ne _ _ _ (by omega), zup_ne _ _ _ c])
  have G3 : gL 0 107 fz 0 (va_up (va_up (va_up M 19 (.inl (3, 10, .inr fun j => some (20 + 4 * j)))) 66 (.inl (3, 10, .inr fun j => some (67 + 4 * j)))) 112 (.inl (3, 10, .inr fun j => some (113 + 4 * j)))) := gL_fr g3 (fun k x y => by
    by_cases c : k = 112
    · rw [c, zup_same, zup_same]
    · rw [zup_ne _ _ _ c, zup_ne _ _ _ (by omega), zup_ne _ _ _ (by omega), zup_ne _ _ _ c])
  refine ⟨0, 0, 0, 0, false, false, 0, fun _ => 0, fun _ => 0, fun _ => 0, fun _ => 0, nw', fun _ => 0, fun _ => 0, 12, 20, ⟨e' h1 (by omega) (by omega) (by omega), ⟨⟨_, _, _, _, _, _, e' h2 (by omega) (by omega) (by omega)⟩, e' h3 (by omega) (by omega) (by omega)⟩, ⟨⟨_, _, _, _, e' h4 (by omega) (by omega) (by omega)⟩, ⟨_, e' h5 (by omega) (by omega) (by omega)⟩, ⟨_, e' h6 (by omega) (by omega) (by omega)⟩, ⟨_, e' h7 (by omega) (by omega) (by omega)⟩, _, e' h8 (by omega) (by omega) (by omega)⟩, ⟨e' h9 (by omega) (by omega) (by omega), e' h10 (by omega) (by omega) (by omega), ⟨_, e' h11 (by omega) (by omega) (by omega)⟩, e' h12 (by omega) (by omega) (by omega), e' h13 (by omega) (by omega) (by omega)⟩, ⟨0, w22, G1⟩, ⟨fz, 0, G2, (fun q => by cases q)⟩, ⟨fz, 0, G3, (fun q => by cases q)⟩, ?_, ⟨_, e' h153 (by omega) (by omega) (by omega), rfl, rfl⟩, ⟨⟨_, e' h154 (by omega) (by omega) (by omega)⟩, ⟨_, e' h155 (by omega) (by omega) (by omega)⟩, ⟨_, e' h156 (by omega) (by omega) (by omega)⟩, ⟨_, e' h157 (by omega) (by omega) (by omega)⟩, _, e' h158 (by omega) (by omega) (by omega)⟩, ⟨e' h159 (by omega) (by omega) (by omega), e' h160 (by omega) (by omega) (by omega)⟩, ⟨?_, 0, 0, 0, 0, 0, 0, e' h162 (by omega) (by omega) (by omega), e' h163 (by omega) (by omega) (by omega), e' h164 (by omega) (by omega) (by omega), e' h165 (by omega) (by omega) (by omega), e' h166 (by omega) (by omega) (by omega), e' h167 (by omega) (by omega) (by omega), by decide⟩⟩, ⟨mO_fr hO (fr 168 (by omega) (by omega) (by omega)), ⟨fx, e' hX (by omega) (by omega) (by omega), fun j hj => absurd hj (Nat.not_lt_zero _)⟩, mT_fr hT (fun k a b => fr k (by omega) (by omega) (by omega)), mN_fr hN (fr 177 (by omega) (by omega) (by omega)), mK_fr hK (fr 178 (by omega) (by omega) (by omega)), mV_fr hV (fun k a b => fr k (by omega) (by omega) (by omega)), ⟨⟨f1, e' h181 (by omega) (by omega) (by omega), fun j hj => absurd hj (Nat.not_lt_zero _)⟩, f2, e' h182 (by omega) (by omega) (by omega), fun j hj => absurd hj (Nat.not_lt_zero _)⟩⟩, ⟨⟨by omega, fun j hj => absurd hj (Nat.not_lt_zero _)⟩, ⟨by omega, by omega, fun j hj => absurd hj (Nat.not_lt_zero _), fun j hj => absurd hj (Nat.not_lt_zero _), fun j hj => absurd hj (Nat.not_lt_zero _), ⟨12, by omega, rfl⟩, 20, by omega, rfl⟩, ⟨by omega, fun j hj => absurd hj (Nat.not_lt_zero _), fun j hj => absurd hj (Nat.not_lt_zero _)⟩, ⟨⟨fun j hj => absurd hj (Nat.not_lt_zero _), fun j hj => absurd hj (Nat.not_lt_zero _), fun j hj => absurd hj (Nat.not_lt_zero _), ⟨0, by decide, w20⟩, Or.inl w21⟩, 0, by omega, w22, fun i hi => absurd hi (Nat.not_lt_zero _)⟩, (fun q => by cases q), (fun q => by cases q)⟩⟩
  · refine e' (h60.trans ?_) (by omega) (by omega) (by omega)
    congr 4
    funext j
    unfold va_up
    by_cases c0 : j = 0
    · subst c0
      rfl
    · by_cases c1 : j = 1
      · subst c1
        rfl
      · rw [if_neg c1, if_neg c0, if_neg c0, if_neg c1]
  · refine e' (h161.trans ?_) (by omega) (by omega) (by omega)
    congr 4
    funext j
    unfold va_up
    by_cases c0 : j = 0
    · subst c0
      rfl
    · by_cases c1 : j = 1
      · subst c1
        rfl
      · by_cases c2 : j = 2
        · subst c2
          rfl
        · by_cases c3 : j = 3
          · subst c3
            rfl
          · by_cases c4 : j = 4
            · subst c4
              rfl
            · by_cases c5 : j = 5
              · subst c5
                rfl
              · rw [if_neg c5, if_neg c4, if_neg c3, if_neg c2, if_neg c1, if_neg c0, if_neg c0, if_neg c1, if_neg c2, if_neg c3, if_neg c4, if_neg c5]
end LX
/-- the heap at the law's start: the script alone -/
def zH0 (L : Nat) (xs : Nat → Int32) : zHp := fun k => if k = 0 then .inl (0, L, .inl xs) else zvoid
theorem law_pure {L : Nat} (hL : L ≤ 320) (xs : Nat → Int32) : ∃ (M' : zHp) (N' S' : Nat), N' ≤ 600000 ∧ S' ≤ 7302250 ∧ zGo 100 mW_law 0 ([.ref 0, .retAddr 0, .retAddr 0, .retAddr 0], [], zH0 L xs, 0, 0) (some (.int 1), M', N', S') := by
  obtain ⟨M1, r1, e1, fr1, c1⟩ := sD_init (d := 96) (S := 12) (M := va_up (zH0 L xs) 1 (.inr (11, [.null, .null, .null, .null, .null, .null, .null, .null, .null, .null, .int 0, .null]))) rfl
  have r1 : zRuns (87 + 12) mD_init [.ref 1] (va_up (zH0 L xs) 1 (.inr (11, [.null, .null, .null, .null, .null, .null, .null, .null, .null, .null, .int 0, .null]))) 1 12 (none, M1, 167, 1181) := r1
  obtain ⟨M2, r2, fr2, hO, ⟨fx, hX⟩, hT, hK, hV, ⟨f1, h181⟩, ⟨f2, h182⟩, nw', hN, w18, w19, w20, w21, w22⟩ := sM_init (d := 98) (S := 1204) (M := va_up M1 168 (.inr (12, [.long 0, .null, .int 0, .null, .null, .null, .null, .null, .null, .null, .int 0, .int 0, .int 0, .int 0, .int 0, .int 0, .null, .null, .null, .null, .null, .null, .int 0]))) rfl
  have r2 : zRuns (87 + 12) mM_init [.ref 168] (va_up M1 168 (.inr (12, [.long 0, .null, .int 0, .null, .null, .null, .null, .null, .null, .null, .int 0, .int 0, .int 0, .int 0, .int 0, .int 0, .null, .null, .null, .null, .null, .null, .int 0]))) 168 1204 (none, M2, 182, 2165) := r2
  have c2 : cI M2 := cI_fr c1 (fun k x y => (fr2 k (by omega)).trans (zup_ne _ _ _ (by omega)))
  have h0 : M2 0 = .inl (0, L, .inl xs) := (fr2 0 (by omega)).trans e1
  have hv := inv_0 c2 hO hX hT hK hV h181 h182 hN w18 w19 w20 w21 w22
  obtain ⟨-, -, -, -, -, l1, l2, l3, -⟩ := c2
  obtain ⟨-, -, ⟨B1, b1, g1⟩, -⟩ := l1
  obtain ⟨-, -, ⟨B2, b2, g2⟩, -⟩ := l2
  obtain ⟨-, -, ⟨B3, b3, g3⟩, -⟩ := l3
  obtain ⟨M', go⟩ := law_loop (L := L) (xs := xs) (N := 182) (S := 2165) (d := 87) hL 64 0 _ (by omega) (by omega) hv (by rw [zup_ne _ _ _ (by omega), zup_ne _ _ _ (by omega), zup_ne _ _ _ (by omega)]; exact h0)
  have go1 := zGo_row (M := va_up (va_up M2 19 (.inl (3, 10, .inr fun j => some (20 + 4 * j)))) 66 (.inl (3, 10, .inr fun j => some (67 + 4 * j)))) (t := 3) (w := 10) (g := B3) (g' := fun j => some (113 + 4 * j)) (a := 112) (by rw [zup_ne _ _ _ (by omega), zup_ne _ _ _ (by omega)]; exact b3) (by omega) g3 go
  have go2 := zGo_row (M := va_up M2 19 (.inl (3, 10, .inr fun j => some (20 + 4 * j)))) (t := 3) (w := 10) (g := B2) (g' := fun j => some (67 + 4 * j)) (a := 66) (by rw [zup_ne _ _ _ (by omega)]; exact b2) (by omega) g2 go1
  have go3 := zGo_row (M := M2) (t := 3) (w := 10) (g := B1) (g' := fun j => some (20 + 4 * j)) (a := 19) b1 (by omega) g1 go2
  refine ⟨M', 182, 2165, by omega, by omega, ?_⟩
  show zGo (87 + 12 + 1) mW_law 0 ([.ref 0, .retAddr 0, .retAddr 0, .retAddr 0], [], zH0 L xs, 0, 0) (some (.int 1), M', 182, 2165)
  generalize 87 + 12 = dd at r1 r2 go3 ⊢
  refine tW_law_0 _ _ _ ?_
  simp only [bW_law_0, e_new, e_const, e_lconst, e_iload, e_aload, e_lload, e_istore, e_astore, e_lstore, e_iinc, e_bin, e_un, e_div, e_mm, e_ladd, e_lcmp, e_dupi, e_dupr, e_dup2, e_popi, e_goto, e_if, e_icmp, e_sw, e_ret, e_zret0, e_zret1, e_zretb, bI_0, bI_1, bI_t, bI_f, i32_10, i32_01, e_lret, e_vret, e_getf, e_putf, e_iald, e_bald, e_aald, e_alen, e_iast, e_bast, e_aast, e_acopy, e_callS, e_callV, e_callI, e_obj, zg0, zg1, zg2, zg3, zg4, zg5, zg6, zg7, zg8, zg9, zg10, zg11, zg12, zg13, zg14, zg15, zg16, zg17, zg18, zg19, zg20, zg21, zg22, zg23, zt0, zt1, zt2, zt3, zt4, zt5, zt6, zt7, zt8, zt9, zt10, zt11, zt12, zt13, zt14, zt15, zt16, zt17, zt18, zt19, zt20, zt21, zt22, zt23, zsi, zsr, zsl, zsu, zs1, zs2, zs3, zs4, zs5, zs6, zs7, zs8, zs9, zs10, zs11, zs12, zs13, zp0, zp1, zp2, zp3, zp4, zp5, zp6, zm0, zm1, zm2, zm3, zm4, zty0, zty2, zty3, zty10, zty11, zkin_self, ztab_self, zup_app, bx_uu, Option.map_some, decide_eq_true_eq, if_true, if_false, ite_true, ite_false, true_and, and_true, Option.toList_some, Option.toList_none, List.cons_append, List.nil_append, reduceIte, List.length_cons, List.length_nil, Nat.reduceAdd, Nat.reduceLT, Nat.reduceEqDiff, Nat.reduceLeDiff, and_self, not_true_eq_false, not_false_eq_true, Int32.reduceSub, Int32.reduceAdd, Int32.reduceToNatClampNeg, Int32.reduceLE, Int32.reduceLT]
  refine ⟨_, r1, ?_⟩
  simp only [e_new, e_const, e_lconst, e_iload, e_aload, e_lload, e_istore, e_astore, e_lstore, e_iinc, e_bin, e_un, e_div, e_mm, e_ladd, e_lcmp, e_dupi, e_dupr, e_dup2, e_popi, e_goto, e_if, e_icmp, e_sw, e_ret, e_zret0, e_zret1, e_zretb, bI_0, bI_1, bI_t, bI_f, i32_10, i32_01, e_lret, e_vret, e_getf, e_putf, e_iald, e_bald, e_aald, e_alen, e_iast, e_bast, e_aast, e_acopy, e_callS, e_callV, e_callI, e_obj, zg0, zg1, zg2, zg3, zg4, zg5, zg6, zg7, zg8, zg9, zg10, zg11, zg12, zg13, zg14, zg15, zg16, zg17, zg18, zg19, zg20, zg21, zg22, zg23, zt0, zt1, zt2, zt3, zt4, zt5, zt6, zt7, zt8, zt9, zt10, zt11, zt12, zt13, zt14, zt15, zt16, zt17, zt18, zt19, zt20, zt21, zt22, zt23, zsi, zsr, zsl, zsu, zs1, zs2, zs3, zs4, zs5, zs6, zs7, zs8, zs9, zs10, zs11, zs12, zs13, zp0, zp1, zp2, zp3, zp4, zp5, zp6, zm0, zm1, zm2, zm3, zm4, zty0, zty2, zty3, zty10, zty11, zkin_self, ztab_self, zup_app, bx_uu, Option.map_some, decide_eq_true_eq, if_true, if_false, ite_true, ite_false, true_and, and_true, Option.toList_some, Option.toList_none, List.cons_append, List.nil_append, reduceIte, List.length_cons, List.length_nil, Nat.reduceAdd, Nat.reduceLT, Nat.reduceEqDiff, Nat.reduceLeDiff, and_self, not_true_eq_false, not_false_eq_true, Int32.reduceSub, Int32.reduceAdd, Int32.reduceToNatClampNeg, Int32.reduceLE, Int32.reduceLT]
  refine ⟨_, r2, ?_⟩
  simp only [e_const, e_lconst, e_iload, e_aload, e_lload, e_istore, e_astore, e_lstore, e_iinc, e_bin, e_un, e_div, e_mm, e_ladd, e_lcmp, e_dupi, e_dupr, e_dup2, e_popi, e_goto, e_if, e_icmp, e_sw, e_ret, e_zret0, e_zret1, e_zretb, bI_0, bI_1, bI_t, bI_f, i32_10, i32_01, e_lret, e_vret, e_getf, e_putf, e_iald, e_bald, e_aald, e_alen, e_iast, e_bast, e_aast, e_acopy, e_callS, e_callV, e_callI, e_obj, zg0, zg1, zg2, zg3, zg4, zg5, zg6, zg7, zg8, zg9, zg10, zg11, zg12, zg13, zg14, zg15, zg16, zg17, zg18, zg19, zg20, zg21, zg22, zg23, zt0, zt1, zt2, zt3, zt4, zt5, zt6, zt7, zt8, zt9, zt10, zt11, zt12, zt13, zt14, zt15, zt16, zt17, zt18, zt19, zt20, zt21, zt22, zt23, zsi, zsr, zsl, zsu, zs1, zs2, zs3, zs4, zs5, zs6, zs7, zs8, zs9, zs10, zs11, zs12, zs13, zp0, zp1, zp2, zp3, zp4, zp5, zp6, zm0, zm1, zm2, zm3, zm4, zty0, zty2, zty3, zty10, zty11, zkin_self, ztab_self, zup_app, bx_uu, Option.map_some, decide_eq_true_eq, if_true, if_false, ite_true, ite_false, true_and, and_true, Option.toList_some, Option.toList_none, List.cons_append, List.nil_append, reduceIte, List.length_cons, List.length_nil, Nat.reduceAdd, Nat.reduceLT, Nat.reduceEqDiff, Nat.reduceLeDiff, and_self, not_true_eq_false, not_false_eq_true, Int32.reduceSub, Int32.reduceAdd, Int32.reduceToNatClampNeg, Int32.reduceLE, Int32.reduceLT]
  exact go3
