/-- a new Now at b -/
def NW (b : Nat) (M : zHp) : Prop := M b = .inr (6, [.ref (b + 1), .ref (b + 2), .ref (b + 3), .int 0, .int 0, .int 0, .int (-9)]) ∧ M (b + 1) = .inl (0, 6, .inl fun _ => 0) ∧ M (b + 2) = .inl (0, 6, .inl fun _ => 0) ∧ M (b + 3) = .inl (0, 6, .inl fun _ => 0)
theorem NW_fr {b : Nat} {M M' : zHp} (h : NW b M) (e : ∀ k, b ≤ k → k ≤ b + 3 → M' k = M k) : NW b M' := by
  unfold NW at h ⊢
  rw [e b (by omega) (by omega), e (b + 1) (by omega) (by omega), e (b + 2) (by omega) (by omega), e (b + 3) (by omega) (by omega)]
  exact h
/-- a new Life at a -/
def LI (a : Nat) (M : zHp) : Prop := M a = .inr (5, [.ref (a + 1), .ref (a + 5), .int 0]) ∧ NW (a + 1) M ∧ (∃ B, M (a + 5) = .inl (3, 10, .inr B) ∧ ∀ j, j < 10 → B j = some (a + 6 + 4 * j)) ∧ ∀ j, j < 10 → NW (a + 6 + 4 * j) M
theorem LI_fr {a : Nat} {M M' : zHp} (h : LI a M) (e : ∀ k, a ≤ k → k ≤ a + 45 → M' k = M k) : LI a M' := by
  obtain ⟨h1, h2, ⟨B, h3, h4⟩, h5⟩ := h
  exact ⟨(e a (by omega) (by omega)).trans h1, NW_fr h2 (fun k x y => e k (by omega) (by omega)), ⟨B, (e (a + 5) (by omega) (by omega)).trans h3, h4⟩, fun j hj => NW_fr (h5 j hj) (fun k x y => e k (by omega) (by omega))⟩
section LI
variable {M : zHp} {N S d : Nat}
theorem sL_initL {a : Nat} : ∀ (k i : Nat), i + k = 10 → ∀ (Mc : zHp) (B : Nat → Option Nat) (S : Nat), Mc a = .inr (5, [.ref (a + 1), .ref (a + 5), .int 0]) → Mc (a + 5) = .inl (3, 10, .inr B) → (∀ j, j < i → B j = some (a + 6 + 4 * j)) → (∀ j, j < i → NW (a + 6 + 4 * j) Mc) → ∃ (M' : zHp) (B' : Nat → Option Nat), (∀ k, ¬ k = a + 5 → ¬ (a + 5 + 4 * i < k ∧ k ≤ a + 45) → M' k = Mc k) ∧ M' (a + 5) = .inl (3, 10, .inr B') ∧ (∀ j, j < 10 → B' j = some (a + 6 + 4 * j)) ∧ (∀ j, j < 10 → NW (a + 6 + 4 * j) M') ∧ ∀ F : zF, zGo (d + 1) mL_init 51 ([.ref a, .int (nI 10)], [], M', a + 45, S + 25 * k) F → zGo (d + 1) mL_init 26 ([.ref a, .int (nI i)], [], Mc, a + 5 + 4 * i, S) F := by
  intro k
  induction k with
  | zero =>
    intro i hi Mc B S h1 h2 h3 h4
    obtain rfl : i = 10 := by omega
    refine ⟨Mc, B, fun _ _ _ => rfl, h2, h3, h4, fun F hF => ?_⟩
    refine tL_init_26 _ _ _ ?_
    simp only [bL_init_26, show ((10 : Int32) ≤ nI 10) = True by decide, e_const, e_lconst, e_iload, e_aload, e_lload, e_istore, e_astore, e_lstore, e_iinc, e_bin, e_un, e_div, e_mm, e_ladd, e_lcmp, e_dupi, e_dupr, e_dup2, e_popi, e_goto, e_if, e_icmp, e_sw, e_ret, e_zret0, e_zret1, e_zretb, bI_0, bI_1, bI_t, bI_f, i32_10, i32_01, e_lret, e_vret, e_getf, e_putf, e_iald, e_bald, e_aald, e_alen, e_iast, e_bast, e_aast, e_acopy, e_callS, e_callV, e_callI, e_obj, zg0, zg1, zg2, zg3, zg4, zg5, zg6, zg7, zg8, zg9, zg10, zg11, zg12, zg13, zg14, zg15, zg16, zg17, zg18, zg19, zg20, zg21, zg22, zg23, zt0, zt1, zt2, zt3, zt4, zt5, zt6, zt7, zt8, zt9, zt10, zt11, zt12, zt13, zt14, zt15, zt16, zt17, zt18, zt19, zt20, zt21, zt22, zt23, zsi, zsr, zsl, zsu, zs1, zs2, zs3, zs4, zs5, zs6, zs7, zs8, zs9, zs10, zs11, zs12, zs13, zp0, zp1, zp2, zp3, zp4, zp5, zp6, zm0, zm1, zm2, zm3, zm4, zty0, zty2, zty3, zty10, zty11, zkin_self, ztab_self, zup_app, bx_uu, Option.map_some, decide_eq_true_eq, if_true, if_false, ite_true, ite_false, true_and, and_true, Option.toList_some, Option.toList_none, List.cons_append, List.nil_append, reduceIte, List.length_cons, List.length_nil, Nat.reduceAdd, Nat.reduceLT, Nat.reduceEqDiff, Nat.reduceLeDiff, and_self, not_true_eq_false, not_false_eq_true, Int32.reduceSub, Int32.reduceAdd, Int32.reduceToNatClampNeg, Int32.reduceLE, Int32.reduceLT]
    exact hF
  | succ k ih =>
    intro i hi Mc B S h1 h2 h3 h4
    have fr0 : ∀ k, ¬ k = a + 5 + 4 * i + 1 → va_up Mc (a + 5 + 4 * i + 1) (.inr (6, [.null, .null, .null, .int 0, .int 0, .int 0, .int 0])) k = Mc k := fun k hk => by simp only [zup_app]; rw [if_neg hk]
    obtain ⟨M1, r1, fr1, n0, n1, n2, n3⟩ := sN_init (d := d) (M := va_up Mc (a + 5 + 4 * i + 1) (.inr (6, [.null, .null, .null, .int 0, .int 0, .int 0, .int 0]))) (a := a + 5 + 4 * i + 1) (S := S + 7) (by simp only [zup_app, if_true])
    have g1 : M1 a = .inr (5, [.ref (a + 1), .ref (a + 5), .int 0]) := ((fr1 a (by omega)).trans (fr0 a (by omega))).trans h1
    have g2 : M1 (a + 5) = .inl (3, 10, .inr B) := ((fr1 (a + 5) (by omega)).trans (fr0 (a + 5) (by omega))).trans h2
    have fr2 : ∀ k, ¬ k = a + 5 → va_up M1 (a + 5) (.inl (3, 10, .inr (va_up B i (some (a + 5 + 4 * i + 1))))) k = M1 k := fun k hk => by simp only [zup_app]; rw [if_neg hk]
    obtain ⟨M', B', q1, q2, q3, q4, q5⟩ := ih (i + 1) (by omega) (va_up M1 (a + 5) (.inl (3, 10, .inr (va_up B i (some (a + 5 + 4 * i + 1)))))) (va_up B i (some (a + 5 + 4 * i + 1))) (S + 7 + 18) ((fr2 a (by omega)).trans g1) (by simp only [zup_app, if_true]) (fun j hj => by
      simp only [va_up]
      by_cases c : j = i
      · rw [if_pos c, c]
        congr 1
        omega
      · rw [if_neg c]; exact h3 j (by omega)) (fun j hj => by
      by_cases c : j = i
      · subst c
        have e : a + 5 + 4 * j + 1 = a + 6 + 4 * j := by omega
        refine NW_fr (M := M1) ?_ (fun k x y => fr2 k (by omega))
        rw [← e]
        exact ⟨n0, n1, n2, n3⟩
      · exact NW_fr (h4 j (by omega)) (fun k x y => (fr2 k (by omega)).trans ((fr1 k (by omega)).trans (fr0 k (by omega)))))
    refine ⟨M', B', fun k x y => (q1 k x (by omega)).trans ((fr2 k x).trans ((fr1 k (by omega)).trans (fr0 k (by omega)))), q2, q3, q4, fun F hF => ?_⟩
    have zi : zix (nI i) 10 = some i := zix_nI (by omega) (by decide)
    rw [show S + 25 * (k + 1) = S + 7 + 18 + 25 * k by omega] at hF
    have q5 := q5 F hF
    rw [show a + 5 + 4 * (i + 1) = a + 5 + 4 * i + 1 + 3 by omega] at q5
    refine tL_init_26 _ _ _ ?_
    simp only [bL_init_26, e_new, show ((10 : Int32) ≤ nI i) = False from eq_false (nI_ge (b := 10) (by omega) (by decide)), h1, e_const, e_lconst, e_iload, e_aload, e_lload, e_istore, e_astore, e_lstore, e_iinc, e_bin, e_un, e_div, e_mm, e_ladd, e_lcmp, e_dupi, e_dupr, e_dup2, e_popi, e_goto, e_if, e_icmp, e_sw, e_ret, e_zret0, e_zret1, e_zretb, bI_0, bI_1, bI_t, bI_f, i32_10, i32_01, e_lret, e_vret, e_getf, e_putf, e_iald, e_bald, e_aald, e_alen, e_iast, e_bast, e_aast, e_acopy, e_callS, e_callV, e_callI, e_obj, zg0, zg1, zg2, zg3, zg4, zg5, zg6, zg7, zg8, zg9, zg10, zg11, zg12, zg13, zg14, zg15, zg16, zg17, zg18, zg19, zg20, zg21, zg22, zg23, zt0, zt1, zt2, zt3, zt4, zt5, zt6, zt7, zt8, zt9, zt10, zt11, zt12, zt13, zt14, zt15, zt16, zt17, zt18, zt19, zt20, zt21, zt22, zt23, zsi, zsr, zsl, zsu, zs1, zs2, zs3, zs4, zs5, zs6, zs7, zs8, zs9, zs10, zs11, zs12, zs13, zp0, zp1, zp2, zp3, zp4, zp5, zp6, zm0, zm1, zm2, zm3, zm4, zty0, zty2, zty3, zty10, zty11, zkin_self, ztab_self, zup_app, bx_uu, Option.map_some, decide_eq_true_eq, if_true, if_false, ite_true, ite_false, true_and, and_true, Option.toList_some, Option.toList_none, List.cons_append, List.nil_append, reduceIte, List.length_cons, List.length_nil, Nat.reduceAdd, Nat.reduceLT, Nat.reduceEqDiff, Nat.reduceLeDiff, and_self, not_true_eq_false, not_false_eq_true, Int32.reduceSub, Int32.reduceAdd, Int32.reduceToNatClampNeg, Int32.reduceLE, Int32.reduceLT]
    refine ⟨_, r1, ?_⟩
    simp only [g2, n0, zi, za_36, nI_1, e_const, e_lconst, e_iload, e_aload, e_lload, e_istore, e_astore, e_lstore, e_iinc, e_bin, e_un, e_div, e_mm, e_ladd, e_lcmp, e_dupi, e_dupr, e_dup2, e_popi, e_goto, e_if, e_icmp, e_sw, e_ret, e_zret0, e_zret1, e_zretb, bI_0, bI_1, bI_t, bI_f, i32_10, i32_01, e_lret, e_vret, e_getf, e_putf, e_iald, e_bald, e_aald, e_alen, e_iast, e_bast, e_aast, e_acopy, e_callS, e_callV, e_callI, e_obj, zg0, zg1, zg2, zg3, zg4, zg5, zg6, zg7, zg8, zg9, zg10, zg11, zg12, zg13, zg14, zg15, zg16, zg17, zg18, zg19, zg20, zg21, zg22, zg23, zt0, zt1, zt2, zt3, zt4, zt5, zt6, zt7, zt8, zt9, zt10, zt11, zt12, zt13, zt14, zt15, zt16, zt17, zt18, zt19, zt20, zt21, zt22, zt23, zsi, zsr, zsl, zsu, zs1, zs2, zs3, zs4, zs5, zs6, zs7, zs8, zs9, zs10, zs11, zs12, zs13, zp0, zp1, zp2, zp3, zp4, zp5, zp6, zm0, zm1, zm2, zm3, zm4, zty0, zty2, zty3, zty10, zty11, zkin_self, ztab_self, zup_app, bx_uu, Option.map_some, decide_eq_true_eq, if_true, if_false, ite_true, ite_false, true_and, and_true, Option.toList_some, Option.toList_none, List.cons_append, List.nil_append, reduceIte, List.length_cons, List.length_nil, Nat.reduceAdd, Nat.reduceLT, Nat.reduceEqDiff, Nat.reduceLeDiff, and_self, not_true_eq_false, not_false_eq_true, Int32.reduceSub, Int32.reduceAdd, Int32.reduceToNatClampNeg, Int32.reduceLE, Int32.reduceLT]
    exact q5
theorem sL_init {a : Nat} (ha : M a = .inr (5, [.null, .null, .int 0])) : ∃ M', zRuns (d + 1) mL_init [.ref a] M a S (none, M', a + 45, S + 285) ∧ (∀ k, ¬ (a ≤ k ∧ k ≤ a + 45) → M' k = M k) ∧ LI a M' := by
  have x1 : (a = a + 1) = False := eq_false (by omega)
  have fr0 : ∀ k, ¬ k = a + 1 → va_up M (a + 1) (.inr (6, [.null, .null, .null, .int 0, .int 0, .int 0, .int 0])) k = M k := fun k hk => by simp only [zup_app]; rw [if_neg hk]
  obtain ⟨M1, r1, fr1, n0, n1, n2, n3⟩ := sN_init (d := d) (M := va_up M (a + 1) (.inr (6, [.null, .null, .null, .int 0, .int 0, .int 0, .int 0]))) (a := a + 1) (S := S + 7) (by simp only [zup_app, if_true])
  have g1 : M1 a = .inr (5, [.null, .null, .int 0]) := ((fr1 a (by omega)).trans (fr0 a (by omega))).trans ha
  have r1 : zRuns d mN_init [.ref (a + 1)] (va_up M (a + 1) (.inr (6, [.null, .null, .null, .int 0, .int 0, .int 0, .int 0]))) (a + 1) (S + 7) (none, M1, a + 4, S + 25) := r1
  have x5 : (a = a + 4 + 1) = False := eq_false (by omega)
  have fr2 : ∀ k, ¬ k = a → ¬ k = a + 5 → va_up (va_up (va_up M1 a (.inr (5, [.ref (a + 1), .null, .int 0]))) (a + 4 + 1) (.inl (3, 10, .inr fun _ => none))) a (.inr (5, [.ref (a + 1), .ref (a + 4 + 1), .int 0])) k = M1 k := fun k x y => by simp only [zup_app]; rw [if_neg x, if_neg (by omega), if_neg x]
  obtain ⟨M', B', q1, q2, q3, q4, q5⟩ := sL_initL (d := d) (a := a) 10 0 (by omega) (va_up (va_up (va_up M1 a (.inr (5, [.ref (a + 1), .null, .int 0]))) (a + 4 + 1) (.inl (3, 10, .inr fun _ => none))) a (.inr (5, [.ref (a + 1), .ref (a + 4 + 1), .int 0]))) (fun _ => none) (S + 35) (by simp only [zup_app, if_true]) (by simp only [zup_app]; repeat (first | rw [if_neg (by omega)] | rw [if_pos trivial])) (fun j hj => by omega) (fun j hj => by omega)
  refine ⟨M', ?_, fun k hk => (q1 k (by omega) (by omega)).trans ((fr2 k (by omega) (by omega)).trans ((fr1 k (by omega)).trans (fr0 k (by omega)))), (q1 a (by omega) (by omega)).trans (by simp only [zup_app, if_true]), NW_fr (M := M1) ⟨n0, n1, n2, n3⟩ (fun k x y => (q1 k (by omega) (by omega)).trans (fr2 k (by omega) (by omega))), ⟨B', q2, q3⟩, q4⟩
  refine zenter (n := 1) kL_init rfl rfl ?_
  refine tL_init_0 _ _ _ ?_
  simp only [bL_init_0, e_new, e_anew, ha, x1, List.replicate, e_const, e_lconst, e_iload, e_aload, e_lload, e_istore, e_astore, e_lstore, e_iinc, e_bin, e_un, e_div, e_mm, e_ladd, e_lcmp, e_dupi, e_dupr, e_dup2, e_popi, e_goto, e_if, e_icmp, e_sw, e_ret, e_zret0, e_zret1, e_zretb, bI_0, bI_1, bI_t, bI_f, i32_10, i32_01, e_lret, e_vret, e_getf, e_putf, e_iald, e_bald, e_aald, e_alen, e_iast, e_bast, e_aast, e_acopy, e_callS, e_callV, e_callI, e_obj, zg0, zg1, zg2, zg3, zg4, zg5, zg6, zg7, zg8, zg9, zg10, zg11, zg12, zg13, zg14, zg15, zg16, zg17, zg18, zg19, zg20, zg21, zg22, zg23, zt0, zt1, zt2, zt3, zt4, zt5, zt6, zt7, zt8, zt9, zt10, zt11, zt12, zt13, zt14, zt15, zt16, zt17, zt18, zt19, zt20, zt21, zt22, zt23, zsi, zsr, zsl, zsu, zs1, zs2, zs3, zs4, zs5, zs6, zs7, zs8, zs9, zs10, zs11, zs12, zs13, zp0, zp1, zp2, zp3, zp4, zp5, zp6, zm0, zm1, zm2, zm3, zm4, zty0, zty2, zty3, zty10, zty11, zkin_self, ztab_self, zup_app, bx_uu, Option.map_some, decide_eq_true_eq, if_true, if_false, ite_true, ite_false, true_and, and_true, Option.toList_some, Option.toList_none, List.cons_append, List.nil_append, reduceIte, List.length_cons, List.length_nil, Nat.reduceAdd, Nat.reduceLT, Nat.reduceEqDiff, Nat.reduceLeDiff, and_self, not_true_eq_false, not_false_eq_true, Int32.reduceSub, Int32.reduceAdd, Int32.reduceToNatClampNeg, Int32.reduceLE, Int32.reduceLT]
  refine ⟨_, r1, ?_⟩
  simp only [e_anew, g1, x5, e_const, e_lconst, e_iload, e_aload, e_lload, e_istore, e_astore, e_lstore, e_iinc, e_bin, e_un, e_div, e_mm, e_ladd, e_lcmp, e_dupi, e_dupr, e_dup2, e_popi, e_goto, e_if, e_icmp, e_sw, e_ret, e_zret0, e_zret1, e_zretb, bI_0, bI_1, bI_t, bI_f, i32_10, i32_01, e_lret, e_vret, e_getf, e_putf, e_iald, e_bald, e_aald, e_alen, e_iast, e_bast, e_aast, e_acopy, e_callS, e_callV, e_callI, e_obj, zg0, zg1, zg2, zg3, zg4, zg5, zg6, zg7, zg8, zg9, zg10, zg11, zg12, zg13, zg14, zg15, zg16, zg17, zg18, zg19, zg20, zg21, zg22, zg23, zt0, zt1, zt2, zt3, zt4, zt5, zt6, zt7, zt8, zt9, zt10, zt11, zt12, zt13, zt14, zt15, zt16, zt17, zt18, zt19, zt20, zt21, zt22, zt23, zsi, zsr, zsl, zsu, zs1, zs2, zs3, zs4, zs5, zs6, zs7, zs8, zs9, zs10, zs11, zs12, zs13, zp0, zp1, zp2, zp3, zp4, zp5, zp6, zm0, zm1, zm2, zm3, zm4, zty0, zty2, zty3, zty10, zty11, zkin_self, ztab_self, zup_app, bx_uu, Option.map_some, decide_eq_true_eq, if_true, if_false, ite_true, ite_false, true_and, and_true, Option.toList_some, Option.toList_none, List.cons_append, List.nil_append, reduceIte, List.length_cons, List.length_nil, Nat.reduceAdd, Nat.reduceLT, Nat.reduceEqDiff, Nat.reduceLeDiff, and_self, not_true_eq_false, not_false_eq_true, Int32.reduceSub, Int32.reduceAdd, Int32.reduceToNatClampNeg, Int32.reduceLE, Int32.reduceLT]
  refine q5 _ ?_
  refine tL_init_51 _ _ _ ?_
  simp only [bL_init_51, e_const, e_lconst, e_iload, e_aload, e_lload, e_istore, e_astore, e_lstore, e_iinc, e_bin, e_un, e_div, e_mm, e_ladd, e_lcmp, e_dupi, e_dupr, e_dup2, e_popi, e_goto, e_if, e_icmp, e_sw, e_ret, e_zret0, e_zret1, e_zretb, bI_0, bI_1, bI_t, bI_f, i32_10, i32_01, e_lret, e_vret, e_getf, e_putf, e_iald, e_bald, e_aald, e_alen, e_iast, e_bast, e_aast, e_acopy, e_callS, e_callV, e_callI, e_obj, zg0, zg1, zg2, zg3, zg4, zg5, zg6, zg7, zg8, zg9, zg10, zg11, zg12, zg13, zg14, zg15, zg16, zg17, zg18, zg19, zg20, zg21, zg22, zg23, zt0, zt1, zt2, zt3, zt4, zt5, zt6, zt7, zt8, zt9, zt10, zt11, zt12, zt13, zt14, zt15, zt16, zt17, zt18, zt19, zt20, zt21, zt22, zt23, zsi, zsr, zsl, zsu, zs1, zs2, zs3, zs4, zs5, zs6, zs7, zs8, zs9, zs10, zs11, zs12, zs13, zp0, zp1, zp2, zp3, zp4, zp5, zp6, zm0, zm1, zm2, zm3, zm4, zty0, zty2, zty3, zty10, zty11, zkin_self, ztab_self, zup_app, bx_uu, Option.map_some, decide_eq_true_eq, if_true, if_false, ite_true, ite_false, true_and, and_true, Option.toList_some, Option.toList_none, List.cons_append, List.nil_append, reduceIte, List.length_cons, List.length_nil, Nat.reduceAdd, Nat.reduceLT, Nat.reduceEqDiff, Nat.reduceLeDiff, and_self, not_true_eq_false, not_false_eq_true, Int32.reduceSub, Int32.reduceAdd, Int32.reduceToNatClampNeg, Int32.reduceLE, Int32.reduceLT]
  all_goals rfl
end LI
