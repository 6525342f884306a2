theorem nS_add (f g : Nat → Nat) : ∀ n : Nat, nS (fun k => f k + g k) n = nS f n + nS g n
  | 0 => rfl
  | n + 1 => by
    show nS (fun k => f k + g k) n + (f n + g n) = nS f n + f n + (nS g n + g n)
    rw [nS_add f g n]
    omega
theorem nS_one {x : Nat} : ∀ n : Nat, nS (fun h => if x = h then 1 else 0) n = if x < n then 1 else 0
  | 0 => by rw [if_neg (by omega)]; rfl
  | n + 1 => by
    show nS (fun h => if x = h then 1 else 0) n + (if x = n then 1 else 0) = _
    rw [nS_one n]
    by_cases c : x = n
    · subst c
      rw [if_neg (by omega), if_pos rfl, if_pos (by omega)]
    · by_cases c1 : x < n
      · rw [if_pos c1, if_neg c, if_pos (by omega)]
      · rw [if_neg c1, if_neg c, if_neg (by omega)]
theorem cnt_all {H : Nat → Nat} {nh : Nat} : ∀ n : Nat, (∀ j, j < n → H j < nh) → nS (fun h => cnt1 H h n) nh = n
  | 0, _ => by
    have := nS_le (f := fun h => cnt1 H h 0) (K := 0) (n := nh) (fun k hk => Nat.le_refl _)
    omega
  | n + 1, h => by
    have e : nS (fun h => cnt1 H h (n + 1)) nh = nS (fun h => cnt1 H h n + (fun h => if H n = h then 1 else 0) h) nh := rfl
    have hn := h n (by omega)
    rw [e, nS_add, cnt_all n (fun j hj => h j (by omega)), nS_one, if_pos hn]
section GH
variable {N S d : Nat} {ty nh np hn : Nat} {tx hall er tp hh hm nw : Nat → Int32} {tax warm : Int32} {tr : Int64} {k0 k1 : Bool} {H : Nat → Nat}
theorem sP_ghA {M : zHp} (hb : nh ≤ 9) (hb2 : np ≤ 6) (hok : okN nh np nw) (hH : ∀ j, j < np → nw (6 + j) = nI (H j)) : ∀ (n i : Nat), i + n = nh → ∀ (Mc : zHp) (C L : Nat → Int32), (∀ a, ¬ a = 155 → ¬ a = 156 → Mc a = M a) → gP M → gT nh np hall er tp tax warm M → gN np 15 nw M → Mc 155 = .inl (0, 9, .inl C) → Mc 156 = .inl (0, 9, .inl L) → (∀ h, h < i → C h = nI (csN hall nh (nw 21) np H h)) → (∀ h, h < i → L h = 0) → ∃ (M' : zHp) (C' L' : Nat → Int32), (∀ a, ¬ a = 155 → ¬ a = 156 → M' a = M a) ∧ M' 155 = .inl (0, 9, .inl C') ∧ M' 156 = .inl (0, 9, .inl L') ∧ (∀ h, h < nh → C' h = nI (csN hall nh (nw 21) np H h)) ∧ (∀ h, h < nh → L' h = 0) ∧ ∀ f : zF, zGo (d + 3) mP_giveHomes 43 ([.ref 154, .int (nI nh)], [], M', N, S) f → zGo (d + 3) mP_giveHomes 2 ([.ref 154, .int (nI i)], [], Mc, N, S) f := by
  intro n
  induction n with
  | zero =>
    intro i hi Mc C L fr hP hT hN h155 h156 hC hL
    obtain rfl : i = nh := by omega
    obtain ⟨⟨ap, h154⟩, -⟩ := id hP
    have h154' := (fr 154 (by omega) (by omega)).trans h154
    obtain ⟨h9, -⟩ := id (gT_fr hT (M' := Mc) (fun k a b => fr k (by omega) (by omega)))
    refine ⟨Mc, C, L, fr, h155, h156, hC, hL, fun f hf => ?_⟩
    refine tP_giveHomes_2 _ _ _ ?_
    simp only [bP_giveHomes_2, h154', h9, show (nI i ≤ nI i) = True from eq_true (nI_le (Nat.le_refl _) (by omega)), e_const, e_lconst, e_iload, e_aload, e_lload, e_istore, e_astore, e_lstore, e_iinc, e_bin, e_un, e_div, e_mm, e_ladd, e_lcmp, e_dupi, e_dupr, e_dup2, e_popi, e_goto, e_if, e_icmp, e_sw, e_ret, e_zret0, e_zret1, e_zretb, bI_0, bI_1, bI_t, bI_f, i32_10, i32_01, e_lret, e_vret, e_getf, e_putf, e_iald, e_bald, e_aald, e_alen, e_iast, e_bast, e_aast, e_acopy, e_callS, e_callV, e_callI, e_obj, zg0, zg1, zg2, zg3, zg4, zg5, zg6, zg7, zg8, zg9, zg10, zg11, zg12, zg13, zg14, zg15, zg16, zg17, zg18, zg19, zg20, zg21, zg22, zg23, zt0, zt1, zt2, zt3, zt4, zt5, zt6, zt7, zt8, zt9, zt10, zt11, zt12, zt13, zt14, zt15, zt16, zt17, zt18, zt19, zt20, zt21, zt22, zt23, zsi, zsr, zsl, zsu, zs1, zs2, zs3, zs4, zs5, zs6, zs7, zs8, zs9, zs10, zs11, zs12, zs13, zp0, zp1, zp2, zp3, zp4, zp5, zp6, zm0, zm1, zm2, zm3, zm4, zty0, zty2, zty3, zty10, zty11, zkin_self, ztab_self, zup_app, bx_uu, Option.map_some, decide_eq_true_eq, if_true, if_false, ite_true, ite_false, true_and, and_true, Option.toList_some, Option.toList_none, List.cons_append, List.nil_append, reduceIte, List.length_cons, List.length_nil, Nat.reduceAdd, Nat.reduceLT, Nat.reduceEqDiff, Nat.reduceLeDiff, and_self, not_true_eq_false, not_false_eq_true, Int32.reduceSub, Int32.reduceAdd, Int32.reduceToNatClampNeg, Int32.reduceLE, Int32.reduceLT]
    exact hf
  | succ n ih =>
    intro i hi Mc C L fr hP hT hN h155 h156 hC hL
    obtain ⟨⟨ap, h154⟩, -, -, h157, h158⟩ := id hP
    have h154' := (fr 154 (by omega) (by omega)).trans h154
    have hP' : gP Mc := ⟨⟨ap, h154'⟩, ⟨C, h155⟩, ⟨L, h156⟩, by rw [fr 157 (by omega) (by omega)]; exact h157, by rw [fr 158 (by omega) (by omega)]; exact h158⟩
    have hT' := gT_fr hT (M' := Mc) (fun k a b => fr k (by omega) (by omega))
    have hN' := gN_fr hN (M' := Mc) (fun k a b => fr k (by omega) (by omega))
    obtain ⟨h9, -⟩ := id hT'
    have nge : (nI nh ≤ nI i) = False := eq_false (nI_ge (by omega) (by omega))
    have zi : zix (nI i) 9 = some i := zix_nI (by omega) (by decide)
    have r1 := sP_wayTo (d := d) (N := N) (S := S) hP' hT' hN' hb (h := i) (by omega) hok.2.2.2.2
    have r2 := sP_dwellersOn (d := d + 2) (N := N) (S := S) hP' hT' hN' hb2 (fWay hall nh i (nw 21))
    have es : fSum (fun p => (fWay hall nh i (nw 21) >>> (nw (6 + p) &&& 31)) &&& 1) np = nI (nS (fun p => btN (fWay hall nh i (nw 21)) (H p)) np) := fSum_nS np (fun p hp => by show (_ >>> (nw (6 + p) &&& 31)) &&& 1 = _; rw [hH p hp]; exact (btN_eq _ _).1)
    rw [es] at r2
    have fr1 : ∀ a, ¬ a = 155 → ¬ a = 156 → va_up (va_up Mc 155 (.inl (0, 9, .inl (upd C i (nI (2 * nS (fun p => btN (fWay hall nh i (nw 21)) (H p)) np)))))) 156 (.inl (0, 9, .inl (upd L i 0))) a = Mc a := by
      intro a ha1 ha2
      simp only [zup_app]
      rw [if_neg ha2, if_neg ha1]
    obtain ⟨M', C', L', q1, q2, q3, q4, q5, q6⟩ := ih (i + 1) (by omega) (va_up (va_up Mc 155 (.inl (0, 9, .inl (upd C i (nI (2 * nS (fun p => btN (fWay hall nh i (nw 21)) (H p)) np)))))) 156 (.inl (0, 9, .inl (upd L i 0)))) (upd C i (nI (2 * nS (fun p => btN (fWay hall nh i (nw 21)) (H p)) np))) (upd L i 0) (fun a x y => (fr1 a x y).trans (fr a x y)) hP hT hN (by simp only [zup_app]; rw [if_neg (by omega), if_pos trivial]) (by simp only [zup_app]; rw [if_pos trivial]) (fun h hh => by
        by_cases c : h = i
        · subst c
          rw [pk_us]
          rfl
        · rw [pk_un c]; exact hC h (by omega)) (fun h hh => by
        by_cases c : h = i
        · subst c
          rw [pk_us]
        · rw [pk_un c]; exact hL h (by omega))
    refine ⟨M', C', L', q1, q2, q3, q4, q5, fun f hf => ?_⟩
    have m2 : ∀ z : Nat, (2 : Int32) * nI z = nI (2 * z) := fun z => by rw [show (2 : Int32) = nI 2 from rfl, pk_mul]
    refine tP_giveHomes_2 _ _ _ ?_
    simp only [bP_giveHomes_2, h154', h9, nge, e_const, e_lconst, e_iload, e_aload, e_lload, e_istore, e_astore, e_lstore, e_iinc, e_bin, e_un, e_div, e_mm, e_ladd, e_lcmp, e_dupi, e_dupr, e_dup2, e_popi, e_goto, e_if, e_icmp, e_sw, e_ret, e_zret0, e_zret1, e_zretb, bI_0, bI_1, bI_t, bI_f, i32_10, i32_01, e_lret, e_vret, e_getf, e_putf, e_iald, e_bald, e_aald, e_alen, e_iast, e_bast, e_aast, e_acopy, e_callS, e_callV, e_callI, e_obj, zg0, zg1, zg2, zg3, zg4, zg5, zg6, zg7, zg8, zg9, zg10, zg11, zg12, zg13, zg14, zg15, zg16, zg17, zg18, zg19, zg20, zg21, zg22, zg23, zt0, zt1, zt2, zt3, zt4, zt5, zt6, zt7, zt8, zt9, zt10, zt11, zt12, zt13, zt14, zt15, zt16, zt17, zt18, zt19, zt20, zt21, zt22, zt23, zsi, zsr, zsl, zsu, zs1, zs2, zs3, zs4, zs5, zs6, zs7, zs8, zs9, zs10, zs11, zs12, zs13, zp0, zp1, zp2, zp3, zp4, zp5, zp6, zm0, zm1, zm2, zm3, zm4, zty0, zty2, zty3, zty10, zty11, zkin_self, ztab_self, zup_app, bx_uu, Option.map_some, decide_eq_true_eq, if_true, if_false, ite_true, ite_false, true_and, and_true, Option.toList_some, Option.toList_none, List.cons_append, List.nil_append, reduceIte, List.length_cons, List.length_nil, Nat.reduceAdd, Nat.reduceLT, Nat.reduceEqDiff, Nat.reduceLeDiff, and_self, not_true_eq_false, not_false_eq_true, Int32.reduceSub, Int32.reduceAdd, Int32.reduceToNatClampNeg, Int32.reduceLE, Int32.reduceLT]
    refine ⟨_, r1, ?_⟩
    simp only [h154', e_const, e_lconst, e_iload, e_aload, e_lload, e_istore, e_astore, e_lstore, e_iinc, e_bin, e_un, e_div, e_mm, e_ladd, e_lcmp, e_dupi, e_dupr, e_dup2, e_popi, e_goto, e_if, e_icmp, e_sw, e_ret, e_zret0, e_zret1, e_zretb, bI_0, bI_1, bI_t, bI_f, i32_10, i32_01, e_lret, e_vret, e_getf, e_putf, e_iald, e_bald, e_aald, e_alen, e_iast, e_bast, e_aast, e_acopy, e_callS, e_callV, e_callI, e_obj, zg0, zg1, zg2, zg3, zg4, zg5, zg6, zg7, zg8, zg9, zg10, zg11, zg12, zg13, zg14, zg15, zg16, zg17, zg18, zg19, zg20, zg21, zg22, zg23, zt0, zt1, zt2, zt3, zt4, zt5, zt6, zt7, zt8, zt9, zt10, zt11, zt12, zt13, zt14, zt15, zt16, zt17, zt18, zt19, zt20, zt21, zt22, zt23, zsi, zsr, zsl, zsu, zs1, zs2, zs3, zs4, zs5, zs6, zs7, zs8, zs9, zs10, zs11, zs12, zs13, zp0, zp1, zp2, zp3, zp4, zp5, zp6, zm0, zm1, zm2, zm3, zm4, zty0, zty2, zty3, zty10, zty11, zkin_self, ztab_self, zup_app, bx_uu, Option.map_some, decide_eq_true_eq, if_true, if_false, ite_true, ite_false, true_and, and_true, Option.toList_some, Option.toList_none, List.cons_append, List.nil_append, reduceIte, List.length_cons, List.length_nil, Nat.reduceAdd, Nat.reduceLT, Nat.reduceEqDiff, Nat.reduceLeDiff, and_self, not_true_eq_false, not_false_eq_true, Int32.reduceSub, Int32.reduceAdd, Int32.reduceToNatClampNeg, Int32.reduceLE, Int32.reduceLT]
    refine ⟨_, r2, ?_⟩
    simp only [h154', h155, h156, zi, m2, nI_1, e_const, e_lconst, e_iload, e_aload, e_lload, e_istore, e_astore, e_lstore, e_iinc, e_bin, e_un, e_div, e_mm, e_ladd, e_lcmp, e_dupi, e_dupr, e_dup2, e_popi, e_goto, e_if, e_icmp, e_sw, e_ret, e_zret0, e_zret1, e_zretb, bI_0, bI_1, bI_t, bI_f, i32_10, i32_01, e_lret, e_vret, e_getf, e_putf, e_iald, e_bald, e_aald, e_alen, e_iast, e_bast, e_aast, e_acopy, e_callS, e_callV, e_callI, e_obj, zg0, zg1, zg2, zg3, zg4, zg5, zg6, zg7, zg8, zg9, zg10, zg11, zg12, zg13, zg14, zg15, zg16, zg17, zg18, zg19, zg20, zg21, zg22, zg23, zt0, zt1, zt2, zt3, zt4, zt5, zt6, zt7, zt8, zt9, zt10, zt11, zt12, zt13, zt14, zt15, zt16, zt17, zt18, zt19, zt20, zt21, zt22, zt23, zsi, zsr, zsl, zsu, zs1, zs2, zs3, zs4, zs5, zs6, zs7, zs8, zs9, zs10, zs11, zs12, zs13, zp0, zp1, zp2, zp3, zp4, zp5, zp6, zm0, zm1, zm2, zm3, zm4, zty0, zty2, zty3, zty10, zty11, zkin_self, ztab_self, zup_app, bx_uu, Option.map_some, decide_eq_true_eq, if_true, if_false, ite_true, ite_false, true_and, and_true, Option.toList_some, Option.toList_none, List.cons_append, List.nil_append, reduceIte, List.length_cons, List.length_nil, Nat.reduceAdd, Nat.reduceLT, Nat.reduceEqDiff, Nat.reduceLeDiff, and_self, not_true_eq_false, not_false_eq_true, Int32.reduceSub, Int32.reduceAdd, Int32.reduceToNatClampNeg, Int32.reduceLE, Int32.reduceLT]
    exact q6 f hf
theorem sP_ghB {M : zHp} (hb : nh ≤ 9) (hb2 : np ≤ 6) (hH : ∀ j, j < np → nw (6 + j) = nI (H j)) (hHn : ∀ j, j < np → H j < nh) : ∀ (n i : Nat), i + n = np → ∀ (Mc : zHp) (L : Nat → Int32), (∀ a, ¬ a = 156 → Mc a = M a) → gP M → gT nh np hall er tp tax warm M → gN np 15 nw M → Mc 156 = .inl (0, 9, .inl L) → (∀ h, h < nh → L h = nI (cnt1 H h i)) → ∃ (M' : zHp) (L' : Nat → Int32), (∀ a, ¬ a = 156 → M' a = M a) ∧ M' 156 = .inl (0, 9, .inl L') ∧ (∀ h, h < nh → L' h = nI (cnt1 H h np)) ∧ ∀ f : zF, zGo d mP_giveHomes 80 ([.ref 154, .int (nI np)], [], M', N, S) f → zGo d mP_giveHomes 45 ([.ref 154, .int (nI i)], [], Mc, N, S) f := by
  intro n
  induction n with
  | zero =>
    intro i hi Mc L fr hP hT hN h156 hL
    obtain rfl : i = np := by omega
    obtain ⟨⟨ap, h154⟩, -⟩ := id hP
    have h154' := (fr 154 (by omega)).trans h154
    obtain ⟨h9, -⟩ := id (gT_fr hT (M' := Mc) (fun k a b => fr k (by omega)))
    refine ⟨Mc, L, fr, h156, hL, fun f hf => ?_⟩
    refine tP_giveHomes_45 _ _ _ ?_
    simp only [bP_giveHomes_45, h154', h9, show (nI i ≤ nI i) = True from eq_true (nI_le (Nat.le_refl _) (by omega)), e_const, e_lconst, e_iload, e_aload, e_lload, e_istore, e_astore, e_lstore, e_iinc, e_bin, e_un, e_div, e_mm, e_ladd, e_lcmp, e_dupi, e_dupr, e_dup2, e_popi, e_goto, e_if, e_icmp, e_sw, e_ret, e_zret0, e_zret1, e_zretb, bI_0, bI_1, bI_t, bI_f, i32_10, i32_01, e_lret, e_vret, e_getf, e_putf, e_iald, e_bald, e_aald, e_alen, e_iast, e_bast, e_aast, e_acopy, e_callS, e_callV, e_callI, e_obj, zg0, zg1, zg2, zg3, zg4, zg5, zg6, zg7, zg8, zg9, zg10, zg11, zg12, zg13, zg14, zg15, zg16, zg17, zg18, zg19, zg20, zg21, zg22, zg23, zt0, zt1, zt2, zt3, zt4, zt5, zt6, zt7, zt8, zt9, zt10, zt11, zt12, zt13, zt14, zt15, zt16, zt17, zt18, zt19, zt20, zt21, zt22, zt23, zsi, zsr, zsl, zsu, zs1, zs2, zs3, zs4, zs5, zs6, zs7, zs8, zs9, zs10, zs11, zs12, zs13, zp0, zp1, zp2, zp3, zp4, zp5, zp6, zm0, zm1, zm2, zm3, zm4, zty0, zty2, zty3, zty10, zty11, zkin_self, ztab_self, zup_app, bx_uu, Option.map_some, decide_eq_true_eq, if_true, if_false, ite_true, ite_false, true_and, and_true, Option.toList_some, Option.toList_none, List.cons_append, List.nil_append, reduceIte, List.length_cons, List.length_nil, Nat.reduceAdd, Nat.reduceLT, Nat.reduceEqDiff, Nat.reduceLeDiff, and_self, not_true_eq_false, not_false_eq_true, Int32.reduceSub, Int32.reduceAdd, Int32.reduceToNatClampNeg, Int32.reduceLE, Int32.reduceLT]
    exact hf
  | succ n ih =>
    intro i hi Mc L fr hP hT hN h156 hL
    obtain ⟨⟨ap, h154⟩, -⟩ := id hP
    have h154' := (fr 154 (by omega)).trans h154
    obtain ⟨h9, -⟩ := id (gT_fr hT (M' := Mc) (fun k a b => fr k (by omega)))
    obtain ⟨h15, -, ⟨f2, h17, g17⟩, -⟩ := id (gN_fr hN (M' := Mc) (fun k a b => fr k (by omega)))
    have nge : (nI np ≤ nI i) = False := eq_false (nI_ge (by omega) (by omega))
    have zi : zix (nI i) 6 = some i := zix_nI (by omega) (by decide)
    have hHi := hHn i (by omega)
    have gi := (g17 i (by omega)).trans (hH i (by omega))
    have zh : zix (nI (H i)) 9 = some (H i) := zix_nI (by omega) (by decide)
    have fr1 : ∀ a, ¬ a = 156 → va_up Mc 156 (.inl (0, 9, .inl (upd L (H i) (nI (cnt1 H (H i) i + 1))))) a = Mc a := by
      intro a ha1
      simp only [zup_app]
      rw [if_neg ha1]
    obtain ⟨M', L', q1, q2, q3, q4⟩ := ih (i + 1) (by omega) (va_up Mc 156 (.inl (0, 9, .inl (upd L (H i) (nI (cnt1 H (H i) i + 1)))))) (upd L (H i) (nI (cnt1 H (H i) i + 1))) (fun a x => (fr1 a x).trans (fr a x)) hP hT hN (by simp only [zup_app]; rw [if_pos trivial]) (fun h hh => by
        rw [cnt_succ]
        by_cases c : h = H i
        · subst c
          rw [pk_us, if_pos rfl]
        · rw [pk_un c, if_neg (fun q => c q.symm)]; exact hL h hh)
    refine ⟨M', L', q1, q2, q3, fun f hf => ?_⟩
    refine tP_giveHomes_45 _ _ _ ?_
    simp only [bP_giveHomes_45, h154', h9, nge, h15, h17, zi, gi, h156, zh, hL (H i) hHi, nI_1, e_const, e_lconst, e_iload, e_aload, e_lload, e_istore, e_astore, e_lstore, e_iinc, e_bin, e_un, e_div, e_mm, e_ladd, e_lcmp, e_dupi, e_dupr, e_dup2, e_popi, e_goto, e_if, e_icmp, e_sw, e_ret, e_zret0, e_zret1, e_zretb, bI_0, bI_1, bI_t, bI_f, i32_10, i32_01, e_lret, e_vret, e_getf, e_putf, e_iald, e_bald, e_aald, e_alen, e_iast, e_bast, e_aast, e_acopy, e_callS, e_callV, e_callI, e_obj, zg0, zg1, zg2, zg3, zg4, zg5, zg6, zg7, zg8, zg9, zg10, zg11, zg12, zg13, zg14, zg15, zg16, zg17, zg18, zg19, zg20, zg21, zg22, zg23, zt0, zt1, zt2, zt3, zt4, zt5, zt6, zt7, zt8, zt9, zt10, zt11, zt12, zt13, zt14, zt15, zt16, zt17, zt18, zt19, zt20, zt21, zt22, zt23, zsi, zsr, zsl, zsu, zs1, zs2, zs3, zs4, zs5, zs6, zs7, zs8, zs9, zs10, zs11, zs12, zs13, zp0, zp1, zp2, zp3, zp4, zp5, zp6, zm0, zm1, zm2, zm3, zm4, zty0, zty2, zty3, zty10, zty11, zkin_self, ztab_self, zup_app, bx_uu, Option.map_some, decide_eq_true_eq, if_true, if_false, ite_true, ite_false, true_and, and_true, Option.toList_some, Option.toList_none, List.cons_append, List.nil_append, reduceIte, List.length_cons, List.length_nil, Nat.reduceAdd, Nat.reduceLT, Nat.reduceEqDiff, Nat.reduceLeDiff, and_self, not_true_eq_false, not_false_eq_true, Int32.reduceSub, Int32.reduceAdd, Int32.reduceToNatClampNeg, Int32.reduceLE, Int32.reduceLT]
    exact q4 f hf
/-- what giveHomes leaves -/
def gBest (hall : Nat → Int32) (nh np : Nat) (ot : Int32) (ern H : Nat → Nat) (F : Nat) (b : Nat → Nat) : Prop := Arr H nh np b ∧ cstG ern (csN hall nh ot np H) np b = F ∧ ∀ g, Arr H nh np g → keyG ern (csN hall nh ot np H) np b ≤ keyG ern (csN hall nh ot np H) np g
theorem cst_b {ern cs g : Nat → Nat} {np nh : Nat} (hb2 : np ≤ 6) (he9 : ∀ j, j < np → ern j ≤ 9) (hc12 : ∀ h, cs h ≤ 12) : cstG ern cs np g ≤ 648 := by
  have : cstG ern cs np g ≤ 108 * np := nS_le (fun j hj => Nat.mul_le_mul (he9 j hj) (hc12 _))
  omega
theorem sP_giveHomes {M : zHp} {ern : Nat → Nat} (hP : gP M) (hT : gT nh np hall er tp tax warm M) (hN : gN np 15 nw M) (hb : nh ≤ 9) (hb2 : np ≤ 6) (hok : okN nh np nw) (hH : ∀ j, j < np → nw (6 + j) = nI (H j)) (hHn : ∀ j, j < np → H j < nh) (he : ∀ j, j < np → er j = nI (ern j)) (he9 : ∀ j, j < np → ern j ≤ 9) : ∃ M', zRuns (d + 11) mP_giveHomes [.ref 154] M N S (none, M', N, S) ∧ (∀ a, a < 154 ∨ 158 < a → M' a = M a) ∧ gP M' ∧ ∃ (F : Nat) (b : Nat → Nat) (BS : Nat → Int32), M' 154 = .inr (8, [.ref 9, .ref 15, .ref 155, .ref 156, .ref 157, .ref 158, .int (nI F)]) ∧ M' 158 = .inl (0, 6, .inl BS) ∧ (∀ j, j < np → BS j = nI (b j)) ∧ gBest hall nh np (nw 21) ern H F b := by
  obtain ⟨⟨ap, h154⟩, ⟨C, h155⟩, ⟨L, h156⟩, ⟨GV, h157⟩, BS, h158⟩ := id hP
  obtain ⟨M1, C1, L1, a1, a2, a3, a4, a5, a6⟩ := sP_ghA (d := d + 8) (N := N) (S := S) (M := M) hb hb2 hok hH nh 0 (by omega) M C L (fun _ _ _ => rfl) hP hT hN h155 h156 (fun h hh => by omega) (fun h hh => by omega)
  have hP1 : gP M1 := ⟨⟨ap, (a1 154 (by omega) (by omega)).trans h154⟩, ⟨C1, a2⟩, ⟨L1, a3⟩, ⟨GV, (a1 157 (by omega) (by omega)).trans h157⟩, BS, (a1 158 (by omega) (by omega)).trans h158⟩
  have hT1 := gT_fr hT (M' := M1) (fun k a b => a1 k (by omega) (by omega))
  have hN1 := gN_fr hN (M' := M1) (fun k a b => a1 k (by omega) (by omega))
  obtain ⟨M2, L2, b1, b2, b3, b4⟩ := sP_ghB (d := d + 11) (N := N) (S := S) (M := M1) hb hb2 hH hHn np 0 (by omega) M1 L1 (fun _ _ => rfl) hP1 hT1 hN1 a3 (fun h hh => a5 h hh)
  have hT2 := gT_fr hT1 (M' := M2) (fun k a b => b1 k (by omega))
  have fr3 : ∀ a, ¬ a = 154 → va_up M2 154 (.inr (8, [.ref 9, .ref 15, .ref 155, .ref 156, .ref 157, .ref 158, .int 1000000])) a = M2 a := by
    intro a ha1
    simp only [zup_app]
    rw [if_neg ha1]
  have h154' := ((b1 154 (by omega)).trans (a1 154 (by omega) (by omega))).trans h154
  have hG : gG 1000000 C1 L2 GV BS (va_up M2 154 (.inr (8, [.ref 9, .ref 15, .ref 155, .ref 156, .ref 157, .ref 158, .int 1000000]))) := ⟨rfl, ((fr3 155 (by omega)).trans (b1 155 (by omega))).trans a2, (fr3 156 (by omega)).trans b2, ((fr3 157 (by omega)).trans ((b1 157 (by omega)).trans (a1 157 (by omega) (by omega)))).trans h157, ((fr3 158 (by omega)).trans ((b1 158 (by omega)).trans (a1 158 (by omega) (by omega)))).trans h158⟩
  obtain ⟨M3, r3, fr, F, LF, GV', BS', hG3, -, -, hF, hU⟩ := sP_giveFrom (d := d + (10 - np)) (N := N) (S := S) (H := H) (ern := ern) (cs := csN hall nh (nw 21) np H) hb hb2 he a4 he9 (fun h _ => csN_le hb2) np 0 (by omega) _ (fun _ => 0) (fun h => cnt1 H h np) 1000000 0 L2 GV BS hG (gT_fr hT2 (fun k a b => fr3 k (by omega))) b3 (fun j hj => by omega) (fun j hj => by omega) (fun h hh => rfl) (cnt_all np hHn) rfl (by decide) hHn
  rw [show d + (10 - np) + np = d + 10 by omega] at r3
  obtain ⟨g1, g2, g3, g4, g5⟩ := id hG3
  refine ⟨M3, ?_, fun a ha => (fr a ha).trans ((fr3 a (by omega)).trans ((b1 a (by omega)).trans (a1 a (by omega) (by omega)))), ⟨⟨_, g1⟩, ⟨_, g2⟩, ⟨_, g3⟩, ⟨_, g4⟩, _, g5⟩, ?_⟩
  · refine zenter (n := 1) kP_giveHomes rfl rfl ?_
    refine tP_giveHomes_0 _ _ _ ?_
    simp only [bP_giveHomes_0, List.replicate, e_const, e_lconst, e_iload, e_aload, e_lload, e_istore, e_astore, e_lstore, e_iinc, e_bin, e_un, e_div, e_mm, e_ladd, e_lcmp, e_dupi, e_dupr, e_dup2, e_popi, e_goto, e_if, e_icmp, e_sw, e_ret, e_zret0, e_zret1, e_zretb, bI_0, bI_1, bI_t, bI_f, i32_10, i32_01, e_lret, e_vret, e_getf, e_putf, e_iald, e_bald, e_aald, e_alen, e_iast, e_bast, e_aast, e_acopy, e_callS, e_callV, e_callI, e_obj, zg0, zg1, zg2, zg3, zg4, zg5, zg6, zg7, zg8, zg9, zg10, zg11, zg12, zg13, zg14, zg15, zg16, zg17, zg18, zg19, zg20, zg21, zg22, zg23, zt0, zt1, zt2, zt3, zt4, zt5, zt6, zt7, zt8, zt9, zt10, zt11, zt12, zt13, zt14, zt15, zt16, zt17, zt18, zt19, zt20, zt21, zt22, zt23, zsi, zsr, zsl, zsu, zs1, zs2, zs3, zs4, zs5, zs6, zs7, zs8, zs9, zs10, zs11, zs12, zs13, zp0, zp1, zp2, zp3, zp4, zp5, zp6, zm0, zm1, zm2, zm3, zm4, zty0, zty2, zty3, zty10, zty11, zkin_self, ztab_self, zup_app, bx_uu, Option.map_some, decide_eq_true_eq, if_true, if_false, ite_true, ite_false, true_and, and_true, Option.toList_some, Option.toList_none, List.cons_append, List.nil_append, reduceIte, List.length_cons, List.length_nil, Nat.reduceAdd, Nat.reduceLT, Nat.reduceEqDiff, Nat.reduceLeDiff, and_self, not_true_eq_false, not_false_eq_true, Int32.reduceSub, Int32.reduceAdd, Int32.reduceToNatClampNeg, Int32.reduceLE, Int32.reduceLT]
    refine a6 _ ?_
    refine tP_giveHomes_43 _ _ _ ?_
    simp only [bP_giveHomes_43, e_const, e_lconst, e_iload, e_aload, e_lload, e_istore, e_astore, e_lstore, e_iinc, e_bin, e_un, e_div, e_mm, e_ladd, e_lcmp, e_dupi, e_dupr, e_dup2, e_popi, e_goto, e_if, e_icmp, e_sw, e_ret, e_zret0, e_zret1, e_zretb, bI_0, bI_1, bI_t, bI_f, i32_10, i32_01, e_lret, e_vret, e_getf, e_putf, e_iald, e_bald, e_aald, e_alen, e_iast, e_bast, e_aast, e_acopy, e_callS, e_callV, e_callI, e_obj, zg0, zg1, zg2, zg3, zg4, zg5, zg6, zg7, zg8, zg9, zg10, zg11, zg12, zg13, zg14, zg15, zg16, zg17, zg18, zg19, zg20, zg21, zg22, zg23, zt0, zt1, zt2, zt3, zt4, zt5, zt6, zt7, zt8, zt9, zt10, zt11, zt12, zt13, zt14, zt15, zt16, zt17, zt18, zt19, zt20, zt21, zt22, zt23, zsi, zsr, zsl, zsu, zs1, zs2, zs3, zs4, zs5, zs6, zs7, zs8, zs9, zs10, zs11, zs12, zs13, zp0, zp1, zp2, zp3, zp4, zp5, zp6, zm0, zm1, zm2, zm3, zm4, zty0, zty2, zty3, zty10, zty11, zkin_self, ztab_self, zup_app, bx_uu, Option.map_some, decide_eq_true_eq, if_true, if_false, ite_true, ite_false, true_and, and_true, Option.toList_some, Option.toList_none, List.cons_append, List.nil_append, reduceIte, List.length_cons, List.length_nil, Nat.reduceAdd, Nat.reduceLT, Nat.reduceEqDiff, Nat.reduceLeDiff, and_self, not_true_eq_false, not_false_eq_true, Int32.reduceSub, Int32.reduceAdd, Int32.reduceToNatClampNeg, Int32.reduceLE, Int32.reduceLT]
    refine b4 _ ?_
    refine tP_giveHomes_80 _ _ _ ?_
    rw [nI_0] at r3
    simp only [bP_giveHomes_80, h154', e_const, e_lconst, e_iload, e_aload, e_lload, e_istore, e_astore, e_lstore, e_iinc, e_bin, e_un, e_div, e_mm, e_ladd, e_lcmp, e_dupi, e_dupr, e_dup2, e_popi, e_goto, e_if, e_icmp, e_sw, e_ret, e_zret0, e_zret1, e_zretb, bI_0, bI_1, bI_t, bI_f, i32_10, i32_01, e_lret, e_vret, e_getf, e_putf, e_iald, e_bald, e_aald, e_alen, e_iast, e_bast, e_aast, e_acopy, e_callS, e_callV, e_callI, e_obj, zg0, zg1, zg2, zg3, zg4, zg5, zg6, zg7, zg8, zg9, zg10, zg11, zg12, zg13, zg14, zg15, zg16, zg17, zg18, zg19, zg20, zg21, zg22, zg23, zt0, zt1, zt2, zt3, zt4, zt5, zt6, zt7, zt8, zt9, zt10, zt11, zt12, zt13, zt14, zt15, zt16, zt17, zt18, zt19, zt20, zt21, zt22, zt23, zsi, zsr, zsl, zsu, zs1, zs2, zs3, zs4, zs5, zs6, zs7, zs8, zs9, zs10, zs11, zs12, zs13, zp0, zp1, zp2, zp3, zp4, zp5, zp6, zm0, zm1, zm2, zm3, zm4, zty0, zty2, zty3, zty10, zty11, zkin_self, ztab_self, zup_app, bx_uu, Option.map_some, decide_eq_true_eq, if_true, if_false, ite_true, ite_false, true_and, and_true, Option.toList_some, Option.toList_none, List.cons_append, List.nil_append, reduceIte, List.length_cons, List.length_nil, Nat.reduceAdd, Nat.reduceLT, Nat.reduceEqDiff, Nat.reduceLeDiff, and_self, not_true_eq_false, not_false_eq_true, Int32.reduceSub, Int32.reduceAdd, Int32.reduceToNatClampNeg, Int32.reduceLE, Int32.reduceLT]
    refine ⟨_, r3, ?_⟩
    simp only [e_const, e_lconst, e_iload, e_aload, e_lload, e_istore, e_astore, e_lstore, e_iinc, e_bin, e_un, e_div, e_mm, e_ladd, e_lcmp, e_dupi, e_dupr, e_dup2, e_popi, e_goto, e_if, e_icmp, e_sw, e_ret, e_zret0, e_zret1, e_zretb, bI_0, bI_1, bI_t, bI_f, i32_10, i32_01, e_lret, e_vret, e_getf, e_putf, e_iald, e_bald, e_aald, e_alen, e_iast, e_bast, e_aast, e_acopy, e_callS, e_callV, e_callI, e_obj, zg0, zg1, zg2, zg3, zg4, zg5, zg6, zg7, zg8, zg9, zg10, zg11, zg12, zg13, zg14, zg15, zg16, zg17, zg18, zg19, zg20, zg21, zg22, zg23, zt0, zt1, zt2, zt3, zt4, zt5, zt6, zt7, zt8, zt9, zt10, zt11, zt12, zt13, zt14, zt15, zt16, zt17, zt18, zt19, zt20, zt21, zt22, zt23, zsi, zsr, zsl, zsu, zs1, zs2, zs3, zs4, zs5, zs6, zs7, zs8, zs9, zs10, zs11, zs12, zs13, zp0, zp1, zp2, zp3, zp4, zp5, zp6, zm0, zm1, zm2, zm3, zm4, zty0, zty2, zty3, zty10, zty11, zkin_self, ztab_self, zup_app, bx_uu, Option.map_some, decide_eq_true_eq, if_true, if_false, ite_true, ite_false, true_and, and_true, Option.toList_some, Option.toList_none, List.cons_append, List.nil_append, reduceIte, List.length_cons, List.length_nil, Nat.reduceAdd, Nat.reduceLT, Nat.reduceEqDiff, Nat.reduceLeDiff, and_self, not_true_eq_false, not_false_eq_true, Int32.reduceSub, Int32.reduceAdd, Int32.reduceToNatClampNeg, Int32.reduceLE, Int32.reduceLT]
  · rcases hU with ⟨u1, u2, u3⟩ | ⟨b, u1, u2, u3, u4, u5⟩
    · exfalso
      have := u3 H ⟨fun j hj => by omega, Arr_self hHn⟩
      have := cst_b (ern := ern) (cs := csN hall nh (nw 21) np H) (g := H) (nh := nh) hb2 he9 (fun h => csN_le hb2)
      omega
    · exact ⟨F, b, BS', g1, g5, u4, u1.2, u2, fun g hg => u5 g ⟨fun j hj => by omega, hg⟩⟩
def fHomes (np F : Nat) (b : Nat → Nat) (p : Int32) : Int32 := if p = -1 ∨ isN np p = true then (if np = 0 then -9 else if p = -1 then nI F else nI (b p.toNatClampNeg)) else -1
theorem m1_isN {n : Nat} : isN n (-1) = false := by
  unfold isN
  exact decide_eq_false (fun q => by have := q.1; have : (0 : Int) ≤ -1 := this; omega)
theorem sD_homes {M : zHp} {ern : Nat → Nat} (hD : gD hn M) (hP : gP M) (hT : gT nh np hall er tp tax warm M) (hN : gN np 15 nw M) (hb : nh ≤ 9) (hb2 : np ≤ 6) (hok : okN nh np nw) (hH : ∀ j, j < np → nw (6 + j) = nI (H j)) (hHn : ∀ j, j < np → H j < nh) (he : ∀ j, j < np → er j = nI (ern j)) (he9 : ∀ j, j < np → ern j ≤ 9) (p : Int32) : ∃ M', (∀ a, a < 154 ∨ 158 < a → M' a = M a) ∧ gP M' ∧ ∃ (F : Nat) (b : Nat → Nat), ((p = -1 ∨ isN np p = true) → 0 < np → gBest hall nh np (nw 21) ern H F b) ∧ zRuns (d + 12) mD_homes [.ref 1, .int p] M N S (some (.int (fHomes np F b p)), M', N, S) := by
  have hD0 := hD
  unfold gD at hD
  obtain ⟨⟨ap, h154⟩, -⟩ := id hP
  obtain ⟨h9, -⟩ := id hT
  unfold fHomes
  by_cases c : p = -1 ∨ isN np p = true
  · by_cases c0 : np = 0
    · refine ⟨M, fun _ _ => rfl, hP, 0, fun _ => 0, fun _ q => by omega, ?_⟩
      rw [if_pos c, if_pos c0]
      have hp1 : p = -1 := by
        rcases c with c | c
        · exact c
        · obtain ⟨j, hj, -⟩ := isN_of (by omega) c
          omega
      subst hp1
      subst c0
      refine zenter (n := 0) kD_homes rfl rfl ?_
      repeat' (first | (refine zstep uD_homes [28] (by decide) rfl ?_; simp only [hD, h9, nI_0, bD_homes_0, bD_homes_15, bD_homes_50, bD_homes_59, e_const, e_lconst, e_iload, e_aload, e_lload, e_istore, e_astore, e_lstore, e_iinc, e_bin, e_un, e_div, e_mm, e_ladd, e_lcmp, e_dupi, e_dupr, e_dup2, e_popi, e_goto, e_if, e_icmp, e_sw, e_ret, e_zret0, e_zret1, e_zretb, bI_0, bI_1, bI_t, bI_f, i32_10, i32_01, e_lret, e_vret, e_getf, e_putf, e_iald, e_bald, e_aald, e_alen, e_iast, e_bast, e_aast, e_acopy, e_callS, e_callV, e_callI, e_obj, zg0, zg1, zg2, zg3, zg4, zg5, zg6, zg7, zg8, zg9, zg10, zg11, zg12, zg13, zg14, zg15, zg16, zg17, zg18, zg19, zg20, zg21, zg22, zg23, zt0, zt1, zt2, zt3, zt4, zt5, zt6, zt7, zt8, zt9, zt10, zt11, zt12, zt13, zt14, zt15, zt16, zt17, zt18, zt19, zt20, zt21, zt22, zt23, zsi, zsr, zsl, zsu, zs1, zs2, zs3, zs4, zs5, zs6, zs7, zs8, zs9, zs10, zs11, zs12, zs13, zp0, zp1, zp2, zp3, zp4, zp5, zp6, zm0, zm1, zm2, zm3, zm4, zty0, zty2, zty3, zty10, zty11, zkin_self, ztab_self, zup_app, bx_uu, Option.map_some, decide_eq_true_eq, if_true, if_false, ite_true, ite_false, true_and, and_true, Option.toList_some, Option.toList_none, List.cons_append, List.nil_append, reduceIte, List.length_cons, List.length_nil, Nat.reduceAdd, Nat.reduceLT, Nat.reduceEqDiff, Nat.reduceLeDiff, and_self, not_true_eq_false, not_false_eq_true, Int32.reduceSub, Int32.reduceAdd, Int32.reduceToNatClampNeg, Int32.reduceLE, Int32.reduceLT]) | (exact True.intro) | (refine ite_in ?_ ?_ <;> intro _) | (refine zsw_in ?_ ?_ <;> (first | (intro e0; subst e0) | intro _)) | (refine zsw_out ?_))
    · obtain ⟨M1, r1, fr, hP1, F, b, BS, p1, p2, p3, p4⟩ := sP_giveHomes (d := d) (N := N) (S := S) hP hT hN hb hb2 hok hH hHn he he9
      refine ⟨M1, fr, hP1, F, b, fun _ _ => p4, ?_⟩
      rw [if_pos c, if_neg c0]
      have ne0 : (nI np = 0) = False := eq_false (nI_ne0 (by omega) (by omega))
      have hD1 := (fr 1 (by omega)).trans hD
      refine zenter (n := 0) kD_homes rfl rfl ?_
      by_cases c1 : p = -1
      · rw [if_pos c1]
        subst c1
        repeat' (first | (refine zstep uD_homes [] (by decide) rfl ?_; simp only [hD, h9, h154, ne0, hD1, p1, bD_homes_0, bD_homes_15, bD_homes_28, bD_homes_50, bD_homes_59, e_const, e_lconst, e_iload, e_aload, e_lload, e_istore, e_astore, e_lstore, e_iinc, e_bin, e_un, e_div, e_mm, e_ladd, e_lcmp, e_dupi, e_dupr, e_dup2, e_popi, e_goto, e_if, e_icmp, e_sw, e_ret, e_zret0, e_zret1, e_zretb, bI_0, bI_1, bI_t, bI_f, i32_10, i32_01, e_lret, e_vret, e_getf, e_putf, e_iald, e_bald, e_aald, e_alen, e_iast, e_bast, e_aast, e_acopy, e_callS, e_callV, e_callI, e_obj, zg0, zg1, zg2, zg3, zg4, zg5, zg6, zg7, zg8, zg9, zg10, zg11, zg12, zg13, zg14, zg15, zg16, zg17, zg18, zg19, zg20, zg21, zg22, zg23, zt0, zt1, zt2, zt3, zt4, zt5, zt6, zt7, zt8, zt9, zt10, zt11, zt12, zt13, zt14, zt15, zt16, zt17, zt18, zt19, zt20, zt21, zt22, zt23, zsi, zsr, zsl, zsu, zs1, zs2, zs3, zs4, zs5, zs6, zs7, zs8, zs9, zs10, zs11, zs12, zs13, zp0, zp1, zp2, zp3, zp4, zp5, zp6, zm0, zm1, zm2, zm3, zm4, zty0, zty2, zty3, zty10, zty11, zkin_self, ztab_self, zup_app, bx_uu, Option.map_some, decide_eq_true_eq, if_true, if_false, ite_true, ite_false, true_and, and_true, Option.toList_some, Option.toList_none, List.cons_append, List.nil_append, reduceIte, List.length_cons, List.length_nil, Nat.reduceAdd, Nat.reduceLT, Nat.reduceEqDiff, Nat.reduceLeDiff, and_self, not_true_eq_false, not_false_eq_true, Int32.reduceSub, Int32.reduceAdd, Int32.reduceToNatClampNeg, Int32.reduceLE, Int32.reduceLT]) | (exact True.intro) | (refine ite_in ?_ ?_ <;> intro _) | (refine ⟨_, r1, ?_⟩; simp only [hD, h9, h154, ne0, hD1, p1, e_const, e_lconst, e_iload, e_aload, e_lload, e_istore, e_astore, e_lstore, e_iinc, e_bin, e_un, e_div, e_mm, e_ladd, e_lcmp, e_dupi, e_dupr, e_dup2, e_popi, e_goto, e_if, e_icmp, e_sw, e_ret, e_zret0, e_zret1, e_zretb, bI_0, bI_1, bI_t, bI_f, i32_10, i32_01, e_lret, e_vret, e_getf, e_putf, e_iald, e_bald, e_aald, e_alen, e_iast, e_bast, e_aast, e_acopy, e_callS, e_callV, e_callI, e_obj, zg0, zg1, zg2, zg3, zg4, zg5, zg6, zg7, zg8, zg9, zg10, zg11, zg12, zg13, zg14, zg15, zg16, zg17, zg18, zg19, zg20, zg21, zg22, zg23, zt0, zt1, zt2, zt3, zt4, zt5, zt6, zt7, zt8, zt9, zt10, zt11, zt12, zt13, zt14, zt15, zt16, zt17, zt18, zt19, zt20, zt21, zt22, zt23, zsi, zsr, zsl, zsu, zs1, zs2, zs3, zs4, zs5, zs6, zs7, zs8, zs9, zs10, zs11, zs12, zs13, zp0, zp1, zp2, zp3, zp4, zp5, zp6, zm0, zm1, zm2, zm3, zm4, zty0, zty2, zty3, zty10, zty11, zkin_self, ztab_self, zup_app, bx_uu, Option.map_some, decide_eq_true_eq, if_true, if_false, ite_true, ite_false, true_and, and_true, Option.toList_some, Option.toList_none, List.cons_append, List.nil_append, reduceIte, List.length_cons, List.length_nil, Nat.reduceAdd, Nat.reduceLT, Nat.reduceEqDiff, Nat.reduceLeDiff, and_self, not_true_eq_false, not_false_eq_true, Int32.reduceSub, Int32.reduceAdd, Int32.reduceToNatClampNeg, Int32.reduceLE, Int32.reduceLT]) | (refine zsw_in ?_ ?_ <;> (first | (intro e0; subst e0) | intro _)) | (refine zsw_out ?_))
      · rw [if_neg c1]
        have c2 : isN np p = true := c.resolve_left c1
        obtain ⟨j, hj, rfl⟩ := isN_of (by omega) c2
        rw [nI_clamp (by omega)]
        have zj : zix (nI j) 6 = some j := zix_nI (by omega) (by decide)
        repeat' (first | (refine zstep uD_homes [] (by decide) rfl ?_; simp only [hD, h9, h154, ne0, c1, c2, hD1, p1, p2, zj, p3 j hj, Bool.true_eq_false, bD_homes_0, bD_homes_15, bD_homes_28, bD_homes_50, bD_homes_59, e_const, e_lconst, e_iload, e_aload, e_lload, e_istore, e_astore, e_lstore, e_iinc, e_bin, e_un, e_div, e_mm, e_ladd, e_lcmp, e_dupi, e_dupr, e_dup2, e_popi, e_goto, e_if, e_icmp, e_sw, e_ret, e_zret0, e_zret1, e_zretb, bI_0, bI_1, bI_t, bI_f, i32_10, i32_01, e_lret, e_vret, e_getf, e_putf, e_iald, e_bald, e_aald, e_alen, e_iast, e_bast, e_aast, e_acopy, e_callS, e_callV, e_callI, e_obj, zg0, zg1, zg2, zg3, zg4, zg5, zg6, zg7, zg8, zg9, zg10, zg11, zg12, zg13, zg14, zg15, zg16, zg17, zg18, zg19, zg20, zg21, zg22, zg23, zt0, zt1, zt2, zt3, zt4, zt5, zt6, zt7, zt8, zt9, zt10, zt11, zt12, zt13, zt14, zt15, zt16, zt17, zt18, zt19, zt20, zt21, zt22, zt23, zsi, zsr, zsl, zsu, zs1, zs2, zs3, zs4, zs5, zs6, zs7, zs8, zs9, zs10, zs11, zs12, zs13, zp0, zp1, zp2, zp3, zp4, zp5, zp6, zm0, zm1, zm2, zm3, zm4, zty0, zty2, zty3, zty10, zty11, zkin_self, ztab_self, zup_app, bx_uu, Option.map_some, decide_eq_true_eq, if_true, if_false, ite_true, ite_false, true_and, and_true, Option.toList_some, Option.toList_none, List.cons_append, List.nil_append, reduceIte, List.length_cons, List.length_nil, Nat.reduceAdd, Nat.reduceLT, Nat.reduceEqDiff, Nat.reduceLeDiff, and_self, not_true_eq_false, not_false_eq_true, Int32.reduceSub, Int32.reduceAdd, Int32.reduceToNatClampNeg, Int32.reduceLE, Int32.reduceLT]) | (exact True.intro) | (refine ite_in ?_ ?_ <;> intro _) | (refine ⟨_, sD_isPerson hD0 hT (by omega) _, ?_⟩; simp only [hD, h9, h154, ne0, c1, c2, hD1, p1, p2, zj, p3 j hj, Bool.true_eq_false, e_const, e_lconst, e_iload, e_aload, e_lload, e_istore, e_astore, e_lstore, e_iinc, e_bin, e_un, e_div, e_mm, e_ladd, e_lcmp, e_dupi, e_dupr, e_dup2, e_popi, e_goto, e_if, e_icmp, e_sw, e_ret, e_zret0, e_zret1, e_zretb, bI_0, bI_1, bI_t, bI_f, i32_10, i32_01, e_lret, e_vret, e_getf, e_putf, e_iald, e_bald, e_aald, e_alen, e_iast, e_bast, e_aast, e_acopy, e_callS, e_callV, e_callI, e_obj, zg0, zg1, zg2, zg3, zg4, zg5, zg6, zg7, zg8, zg9, zg10, zg11, zg12, zg13, zg14, zg15, zg16, zg17, zg18, zg19, zg20, zg21, zg22, zg23, zt0, zt1, zt2, zt3, zt4, zt5, zt6, zt7, zt8, zt9, zt10, zt11, zt12, zt13, zt14, zt15, zt16, zt17, zt18, zt19, zt20, zt21, zt22, zt23, zsi, zsr, zsl, zsu, zs1, zs2, zs3, zs4, zs5, zs6, zs7, zs8, zs9, zs10, zs11, zs12, zs13, zp0, zp1, zp2, zp3, zp4, zp5, zp6, zm0, zm1, zm2, zm3, zm4, zty0, zty2, zty3, zty10, zty11, zkin_self, ztab_self, zup_app, bx_uu, Option.map_some, decide_eq_true_eq, if_true, if_false, ite_true, ite_false, true_and, and_true, Option.toList_some, Option.toList_none, List.cons_append, List.nil_append, reduceIte, List.length_cons, List.length_nil, Nat.reduceAdd, Nat.reduceLT, Nat.reduceEqDiff, Nat.reduceLeDiff, and_self, not_true_eq_false, not_false_eq_true, Int32.reduceSub, Int32.reduceAdd, Int32.reduceToNatClampNeg, Int32.reduceLE, Int32.reduceLT]) | (refine ⟨_, r1, ?_⟩; simp only [hD, h9, h154, ne0, c1, c2, hD1, p1, p2, zj, p3 j hj, Bool.true_eq_false, e_const, e_lconst, e_iload, e_aload, e_lload, e_istore, e_astore, e_lstore, e_iinc, e_bin, e_un, e_div, e_mm, e_ladd, e_lcmp, e_dupi, e_dupr, e_dup2, e_popi, e_goto, e_if, e_icmp, e_sw, e_ret, e_zret0, e_zret1, e_zretb, bI_0, bI_1, bI_t, bI_f, i32_10, i32_01, e_lret, e_vret, e_getf, e_putf, e_iald, e_bald, e_aald, e_alen, e_iast, e_bast, e_aast, e_acopy, e_callS, e_callV, e_callI, e_obj, zg0, zg1, zg2, zg3, zg4, zg5, zg6, zg7, zg8, zg9, zg10, zg11, zg12, zg13, zg14, zg15, zg16, zg17, zg18, zg19, zg20, zg21, zg22, zg23, zt0, zt1, zt2, zt3, zt4, zt5, zt6, zt7, zt8, zt9, zt10, zt11, zt12, zt13, zt14, zt15, zt16, zt17, zt18, zt19, zt20, zt21, zt22, zt23, zsi, zsr, zsl, zsu, zs1, zs2, zs3, zs4, zs5, zs6, zs7, zs8, zs9, zs10, zs11, zs12, zs13, zp0, zp1, zp2, zp3, zp4, zp5, zp6, zm0, zm1, zm2, zm3, zm4, zty0, zty2, zty3, zty10, zty11, zkin_self, ztab_self, zup_app, bx_uu, Option.map_some, decide_eq_true_eq, if_true, if_false, ite_true, ite_false, true_and, and_true, Option.toList_some, Option.toList_none, List.cons_append, List.nil_append, reduceIte, List.length_cons, List.length_nil, Nat.reduceAdd, Nat.reduceLT, Nat.reduceEqDiff, Nat.reduceLeDiff, and_self, not_true_eq_false, not_false_eq_true, Int32.reduceSub, Int32.reduceAdd, Int32.reduceToNatClampNeg, Int32.reduceLE, Int32.reduceLT]) | (refine zsw_in ?_ ?_ <;> (first | (intro e0; subst e0) | intro _)) | (refine zsw_out ?_))
  · refine ⟨M, fun _ _ => rfl, hP, 0, fun _ => 0, fun q => absurd q c, ?_⟩
    rw [if_neg c]
    have c1 : (p = -1) = False := eq_false (fun q => c (Or.inl q))
    have c2 : isN np p = false := by
      cases e : isN np p with
      | false => rfl
      | true => exact absurd (Or.inr e) c
    refine zenter (n := 0) kD_homes rfl rfl ?_
    repeat' (first | (refine zstep uD_homes [] (by decide) rfl ?_; simp only [hD, c1, c2, Bool.false_eq_true, bD_homes_0, bD_homes_15, bD_homes_28, bD_homes_50, bD_homes_59, e_const, e_lconst, e_iload, e_aload, e_lload, e_istore, e_astore, e_lstore, e_iinc, e_bin, e_un, e_div, e_mm, e_ladd, e_lcmp, e_dupi, e_dupr, e_dup2, e_popi, e_goto, e_if, e_icmp, e_sw, e_ret, e_zret0, e_zret1, e_zretb, bI_0, bI_1, bI_t, bI_f, i32_10, i32_01, e_lret, e_vret, e_getf, e_putf, e_iald, e_bald, e_aald, e_alen, e_iast, e_bast, e_aast, e_acopy, e_callS, e_callV, e_callI, e_obj, zg0, zg1, zg2, zg3, zg4, zg5, zg6, zg7, zg8, zg9, zg10, zg11, zg12, zg13, zg14, zg15, zg16, zg17, zg18, zg19, zg20, zg21, zg22, zg23, zt0, zt1, zt2, zt3, zt4, zt5, zt6, zt7, zt8, zt9, zt10, zt11, zt12, zt13, zt14, zt15, zt16, zt17, zt18, zt19, zt20, zt21, zt22, zt23, zsi, zsr, zsl, zsu, zs1, zs2, zs3, zs4, zs5, zs6, zs7, zs8, zs9, zs10, zs11, zs12, zs13, zp0, zp1, zp2, zp3, zp4, zp5, zp6, zm0, zm1, zm2, zm3, zm4, zty0, zty2, zty3, zty10, zty11, zkin_self, ztab_self, zup_app, bx_uu, Option.map_some, decide_eq_true_eq, if_true, if_false, ite_true, ite_false, true_and, and_true, Option.toList_some, Option.toList_none, List.cons_append, List.nil_append, reduceIte, List.length_cons, List.length_nil, Nat.reduceAdd, Nat.reduceLT, Nat.reduceEqDiff, Nat.reduceLeDiff, and_self, not_true_eq_false, not_false_eq_true, Int32.reduceSub, Int32.reduceAdd, Int32.reduceToNatClampNeg, Int32.reduceLE, Int32.reduceLT]) | (exact True.intro) | (refine ite_in ?_ ?_ <;> intro _) | (refine ⟨_, sD_isPerson hD0 hT (by omega) _, ?_⟩; simp only [hD, c1, c2, Bool.false_eq_true, e_const, e_lconst, e_iload, e_aload, e_lload, e_istore, e_astore, e_lstore, e_iinc, e_bin, e_un, e_div, e_mm, e_ladd, e_lcmp, e_dupi, e_dupr, e_dup2, e_popi, e_goto, e_if, e_icmp, e_sw, e_ret, e_zret0, e_zret1, e_zretb, bI_0, bI_1, bI_t, bI_f, i32_10, i32_01, e_lret, e_vret, e_getf, e_putf, e_iald, e_bald, e_aald, e_alen, e_iast, e_bast, e_aast, e_acopy, e_callS, e_callV, e_callI, e_obj, zg0, zg1, zg2, zg3, zg4, zg5, zg6, zg7, zg8, zg9, zg10, zg11, zg12, zg13, zg14, zg15, zg16, zg17, zg18, zg19, zg20, zg21, zg22, zg23, zt0, zt1, zt2, zt3, zt4, zt5, zt6, zt7, zt8, zt9, zt10, zt11, zt12, zt13, zt14, zt15, zt16, zt17, zt18, zt19, zt20, zt21, zt22, zt23, zsi, zsr, zsl, zsu, zs1, zs2, zs3, zs4, zs5, zs6, zs7, zs8, zs9, zs10, zs11, zs12, zs13, zp0, zp1, zp2, zp3, zp4, zp5, zp6, zm0, zm1, zm2, zm3, zm4, zty0, zty2, zty3, zty10, zty11, zkin_self, ztab_self, zup_app, bx_uu, Option.map_some, decide_eq_true_eq, if_true, if_false, ite_true, ite_false, true_and, and_true, Option.toList_some, Option.toList_none, List.cons_append, List.nil_append, reduceIte, List.length_cons, List.length_nil, Nat.reduceAdd, Nat.reduceLT, Nat.reduceEqDiff, Nat.reduceLeDiff, and_self, not_true_eq_false, not_false_eq_true, Int32.reduceSub, Int32.reduceAdd, Int32.reduceToNatClampNeg, Int32.reduceLE, Int32.reduceLT]) | (refine zsw_in ?_ ?_ <;> (first | (intro e0; subst e0) | intro _)) | (refine zsw_out ?_))
end GH
