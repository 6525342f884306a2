def Cmp (H : Nat → Nat) (nh np p : Nat) (gv g : Nat → Nat) : Prop := (∀ j, j < p → g j = gv j) ∧ Arr H nh np g
/-- what became of the best so far behind a look at those of C -/
def Upd (er cs : Nat → Nat) (np : Nat) (C : (Nat → Nat) → Prop) (F : Nat) (BS : Nat → Int32) (F' : Nat) (BS' : Nat → Int32) : Prop :=
  (F' = F ∧ BS' = BS ∧ ∀ g, C g → F ≤ cstG er cs np g) ∨ ∃ b, C b ∧ cstG er cs np b = F' ∧ F' < F ∧ (∀ j, j < np → BS' j = nI (b j)) ∧ ∀ g, C g → keyG er cs np b ≤ keyG er cs np g
theorem Upd_iff {er cs : Nat → Nat} {np : Nat} {C C' : (Nat → Nat) → Prop} {F F' : Nat} {BS BS' : Nat → Int32} (h : ∀ g, C g ↔ C' g) (u : Upd er cs np C F BS F' BS') : Upd er cs np C' F BS F' BS' := by
  rcases u with ⟨a, b, c⟩ | ⟨b, h1, h2, h3, h4, h5⟩
  · exact Or.inl ⟨a, b, fun g hg => c g ((h g).mpr hg)⟩
  · exact Or.inr ⟨b, (h b).mp h1, h2, h3, h4, fun g hg => h5 g ((h g).mpr hg)⟩
theorem Upd_seq {er cs : Nat → Nat} {np : Nat} {C D : (Nat → Nat) → Prop} {F F1 F2 : Nat} {BS BS1 BS2 : Nat → Int32} (u : Upd er cs np C F BS F1 BS1) (v : Upd er cs np D F1 BS1 F2 BS2) (hx : ∀ b g, C b → D g → vl b np ≤ vl g np) (hd : ∀ g, D g → ∀ j, j < np → g j < 10) : Upd er cs np (fun g => C g ∨ D g) F BS F2 BS2 := by
  rcases u with ⟨a1, a2, a3⟩ | ⟨b1, h1, h2, h3, h4, h5⟩
  · subst a1 a2
    rcases v with ⟨c1, c2, c3⟩ | ⟨b2, g1, g2, g3, g4, g5⟩
    · subst c1 c2
      exact Or.inl ⟨rfl, rfl, fun g hg => hg.elim (a3 g) (c3 g)⟩
    · refine Or.inr ⟨b2, Or.inr g1, g2, g3, g4, fun g hg => hg.elim (fun q => ?_) (g5 g)⟩
      have := a3 g q
      exact key_lt (hd b2 g1) (by omega)
  · rcases v with ⟨c1, c2, c3⟩ | ⟨b2, g1, g2, g3, g4, g5⟩
    · subst c1 c2
      refine Or.inr ⟨b1, Or.inl h1, h2, h3, h4, fun g hg => hg.elim (h5 g) (fun q => ?_)⟩
      have := c3 g q
      exact key_le (by omega) (hx b1 g h1 q)
    · refine Or.inr ⟨b2, Or.inr g1, g2, by omega, g4, fun g hg => hg.elim (fun q => ?_) (g5 g)⟩
      exact Nat.le_trans (key_lt (y := b1) (hd b2 g1) (by omega)) (h5 g q)
theorem cnt_out {g : Nat → Nat} {nh h : Nat} (hh : nh ≤ h) : ∀ n : Nat, (∀ j, j < n → g j < nh) → cnt1 g h n = 0
  | 0, _ => rfl
  | n + 1, hg => by
    show cnt1 g h n + (if g n = h then 1 else 0) = 0
    have := hg n (by omega)
    rw [cnt_out hh n (fun j hj => hg j (by omega)), if_neg (by omega)]
theorem cnt_mono (g : Nat → Nat) (h : Nat) {p n : Nat} (hp : p ≤ n) : cnt1 g h p ≤ cnt1 g h n := nS_mono _ n hp
theorem cnt_congr {g f : Nat → Nat} {h n : Nat} (e : ∀ j, j < n → g j = f j) : cnt1 g h n = cnt1 f h n := nS_congr (fun k hk => by show (if g k = h then 1 else 0) = if f k = h then 1 else 0; rw [e k hk])
theorem cnt_succ (g : Nat → Nat) (h n : Nat) : cnt1 g h (n + 1) = cnt1 g h n + (if g n = h then 1 else 0) := rfl
def gG (F : Nat) (CO LF GV BS : Nat → Int32) (M : zHp) : Prop := M 154 = .inr (8, [.ref 9, .ref 15, .ref 155, .ref 156, .ref 157, .ref 158, .int (nI F)]) ∧ M 155 = .inl (0, 9, .inl CO) ∧ M 156 = .inl (0, 9, .inl LF) ∧ M 157 = .inl (0, 6, .inl GV) ∧ M 158 = .inl (0, 6, .inl BS)
/-- what giveFrom leaves -/
def gPost (er cs H : Nat → Nat) (nh np p : Nat) (gv lf : Nat → Nat) (F : Nat) (CO BS : Nat → Int32) (M M' : zHp) : Prop := (∀ a, a < 154 ∨ 158 < a → M' a = M a) ∧ ∃ (F' : Nat) (LF' GV' BS' : Nat → Int32), gG F' CO LF' GV' BS' M' ∧ (∀ h, h < nh → LF' h = nI (lf h)) ∧ (∀ j, j < p → GV' j = nI (gv j)) ∧ F' < 2 ^ 31 ∧ Upd er cs np (Cmp H nh np p gv) F BS F' BS'
section GF
variable {N S d : Nat} {nh np : Nat} {hall er tp : Nat → Int32} {tax warm : Int32} {ern cs H : Nat → Nat} {CO : Nat → Int32}
theorem sP_giveLoop (hb : nh ≤ 9) (hb2 : np ≤ 6) (he : ∀ j, j < np → er j = nI (ern j)) (hc : ∀ h, h < nh → CO h = nI (cs h)) {k p sm : Nat} (hp : p + (k + 1) = np) {gv lf : Nat → Nat} {F : Nat} {BS : Nat → Int32} {M : zHp} (hgv : ∀ j, j < p → gv j < nh) (hlf : ∀ h, h < nh → lf h + cnt1 gv h p = cnt1 H h np) (hS : nS lf nh = k + 1) (hsm : sm = nS (fun q => ern q * cs (gv q)) p)
    (IH : ∀ (M : zHp) (gv lf : Nat → Nat) (F sm : Nat) (LF GV BS : Nat → Int32), gG F CO LF GV BS M → gT nh np hall er tp tax warm M → (∀ h, h < nh → LF h = nI (lf h)) → (∀ j, j < p + 1 → GV j = nI (gv j)) → (∀ j, j < p + 1 → gv j < nh) → (∀ h, h < nh → lf h + cnt1 gv h (p + 1) = cnt1 H h np) → nS lf nh = k → sm = nS (fun q => ern q * cs (gv q)) (p + 1) → F < 2 ^ 31 → ∃ M', zRuns (d + k) mP_giveFrom [.ref 154, .int (nI (p + 1)), .int (nI sm)] M N S (none, M', N, S) ∧ gPost ern cs H nh np (p + 1) gv lf F CO BS M M') :
    ∀ (n i : Nat), i + n = nh → ∀ (Mc : zHp) (Fc : Nat) (LFc GVc BSc : Nat → Int32), gG Fc CO LFc GVc BSc Mc → gT nh np hall er tp tax warm Mc → (∀ a, a < 154 ∨ 158 < a → Mc a = M a) → (∀ h, h < nh → LFc h = nI (lf h)) → (∀ j, j < p → GVc j = nI (gv j)) → Fc < 2 ^ 31 → Upd ern cs np (fun g => Cmp H nh np p gv g ∧ g p < i) F BS Fc BSc → ∃ M', zGo (d + k + 1) mP_giveFrom 43 ([.ref 154, .int (nI p), .int (nI sm), .int (nI i)], [], Mc, N, S) (none, M', N, S) ∧ gPost ern cs H nh np p gv lf F CO BS M M' := by
  intro n
  induction n with
  | zero =>
    intro i hi Mc Fc LFc GVc BSc hG hT fr hL hV hF hU
    obtain ⟨g1, g2, g3, g4, g5⟩ := id hG
    obtain ⟨h9, h10, h11, h12, h13⟩ := id hT
    refine ⟨Mc, ?_, fr, Fc, LFc, GVc, BSc, hG, hL, hV, hF, Upd_iff (fun g => ⟨fun q => q.1, fun q => ⟨q, ?_⟩⟩) hU⟩
    · refine tP_giveFrom_43 _ _ _ ?_
      obtain rfl : i = nh := by omega
      simp only [bP_giveFrom_43, g1, h9, show (nI i ≤ nI i) = True from eq_true (nI_le (Nat.le_refl _) (by omega)), e_const, e_lconst, e_iload, e_aload, e_lload, e_istore, e_astore, e_lstore, e_iinc, e_bin, e_un, e_div, e_mm, e_ladd, e_lcmp, e_dupi, e_dupr, e_dup2, e_popi, e_goto, e_if, e_icmp, e_sw, e_ret, e_zret0, e_zret1, e_zretb, bI_0, bI_1, bI_t, bI_f, i32_10, i32_01, e_lret, e_vret, e_getf, e_putf, e_iald, e_bald, e_aald, e_alen, e_iast, e_bast, e_aast, e_acopy, e_callS, e_callV, e_callI, e_obj, zg0, zg1, zg2, zg3, zg4, zg5, zg6, zg7, zg8, zg9, zg10, zg11, zg12, zg13, zg14, zg15, zg16, zg17, zg18, zg19, zg20, zg21, zg22, zg23, zt0, zt1, zt2, zt3, zt4, zt5, zt6, zt7, zt8, zt9, zt10, zt11, zt12, zt13, zt14, zt15, zt16, zt17, zt18, zt19, zt20, zt21, zt22, zt23, zsi, zsr, zsl, zsu, zs1, zs2, zs3, zs4, zs5, zs6, zs7, zs8, zs9, zs10, zs11, zs12, zs13, zp0, zp1, zp2, zp3, zp4, zp5, zp6, zm0, zm1, zm2, zm3, zm4, zty0, zty2, zty3, zty10, zty11, zkin_self, ztab_self, zup_app, bx_uu, Option.map_some, decide_eq_true_eq, if_true, if_false, ite_true, ite_false, true_and, and_true, Option.toList_some, Option.toList_none, List.cons_append, List.nil_append, reduceIte, List.length_cons, List.length_nil, Nat.reduceAdd, Nat.reduceLT, Nat.reduceEqDiff, Nat.reduceLeDiff, and_self, not_true_eq_false, not_false_eq_true, Int32.reduceSub, Int32.reduceAdd, Int32.reduceToNatClampNeg, Int32.reduceLE, Int32.reduceLT]
      repeat' (first | (refine zstep uP_giveFrom [43] (by decide) rfl ?_; simp only [bP_giveFrom_0, bP_giveFrom_9, bP_giveFrom_41, bP_giveFrom_115, bP_giveFrom_121, e_const, e_lconst, e_iload, e_aload, e_lload, e_istore, e_astore, e_lstore, e_iinc, e_bin, e_un, e_div, e_mm, e_ladd, e_lcmp, e_dupi, e_dupr, e_dup2, e_popi, e_goto, e_if, e_icmp, e_sw, e_ret, e_zret0, e_zret1, e_zretb, bI_0, bI_1, bI_t, bI_f, i32_10, i32_01, e_lret, e_vret, e_getf, e_putf, e_iald, e_bald, e_aald, e_alen, e_iast, e_bast, e_aast, e_acopy, e_callS, e_callV, e_callI, e_obj, zg0, zg1, zg2, zg3, zg4, zg5, zg6, zg7, zg8, zg9, zg10, zg11, zg12, zg13, zg14, zg15, zg16, zg17, zg18, zg19, zg20, zg21, zg22, zg23, zt0, zt1, zt2, zt3, zt4, zt5, zt6, zt7, zt8, zt9, zt10, zt11, zt12, zt13, zt14, zt15, zt16, zt17, zt18, zt19, zt20, zt21, zt22, zt23, zsi, zsr, zsl, zsu, zs1, zs2, zs3, zs4, zs5, zs6, zs7, zs8, zs9, zs10, zs11, zs12, zs13, zp0, zp1, zp2, zp3, zp4, zp5, zp6, zm0, zm1, zm2, zm3, zm4, zty0, zty2, zty3, zty10, zty11, zkin_self, ztab_self, zup_app, bx_uu, Option.map_some, decide_eq_true_eq, if_true, if_false, ite_true, ite_false, true_and, and_true, Option.toList_some, Option.toList_none, List.cons_append, List.nil_append, reduceIte, List.length_cons, List.length_nil, Nat.reduceAdd, Nat.reduceLT, Nat.reduceEqDiff, Nat.reduceLeDiff, and_self, not_true_eq_false, not_false_eq_true, Int32.reduceSub, Int32.reduceAdd, Int32.reduceToNatClampNeg, Int32.reduceLE, Int32.reduceLT]) | (exact True.intro) | (refine ite_in ?_ ?_ <;> intro _) | (refine zsw_in ?_ ?_ <;> (first | (intro e0; subst e0) | intro _)) | (refine zsw_out ?_))
    · have := q.2.1 p (by omega)
      omega
  | succ n ih =>
    intro i hi Mc Fc LFc GVc BSc hG hT fr hL hV hF hU
    obtain ⟨g1, g2, g3, g4, g5⟩ := id hG
    obtain ⟨h9, h10, h11, h12, h13⟩ := id hT
    have nge : (nI nh ≤ nI i) = False := eq_false (nI_ge (by omega) (by omega))
    have zi : zix (nI i) 9 = some i := zix_nI (by omega) (by decide)
    have zp : zix (nI p) 6 = some p := zix_nI (by omega) (by decide)
    have hin : i < nh := by omega
    have hLi := hL i hin
    have hle := hlf i hin
    rcases Nat.eq_zero_or_pos (lf i) with e0 | e0
    · have hU1 : Upd ern cs np (fun g => Cmp H nh np p gv g ∧ g p < i + 1) F BS Fc BSc := by
        refine Upd_iff (fun g => ⟨fun q => ⟨q.1, by have := q.2; omega⟩, fun q => ⟨q.1, ?_⟩⟩) hU
        have q1 := q.2
        have : ¬ g p = i := by
          intro e
          have c1 := q.1.2.2 i
          have c2 := cnt_mono g i (show p + 1 ≤ np by omega)
          rw [cnt_succ, if_pos e, cnt_congr (fun j hj => q.1.1 j hj)] at c2
          omega
        omega
      obtain ⟨M', r, post⟩ := ih (i + 1) (by omega) Mc Fc LFc GVc BSc hG hT fr hL hV hF hU1
      refine ⟨M', ?_, post⟩
      refine tP_giveFrom_43 _ _ _ ?_
      simp only [bP_giveFrom_43, g1, g3, h9, nge, zi, hLi, e0, show (nI 0 ≤ 0) = True by decide, e_const, e_lconst, e_iload, e_aload, e_lload, e_istore, e_astore, e_lstore, e_iinc, e_bin, e_un, e_div, e_mm, e_ladd, e_lcmp, e_dupi, e_dupr, e_dup2, e_popi, e_goto, e_if, e_icmp, e_sw, e_ret, e_zret0, e_zret1, e_zretb, bI_0, bI_1, bI_t, bI_f, i32_10, i32_01, e_lret, e_vret, e_getf, e_putf, e_iald, e_bald, e_aald, e_alen, e_iast, e_bast, e_aast, e_acopy, e_callS, e_callV, e_callI, e_obj, zg0, zg1, zg2, zg3, zg4, zg5, zg6, zg7, zg8, zg9, zg10, zg11, zg12, zg13, zg14, zg15, zg16, zg17, zg18, zg19, zg20, zg21, zg22, zg23, zt0, zt1, zt2, zt3, zt4, zt5, zt6, zt7, zt8, zt9, zt10, zt11, zt12, zt13, zt14, zt15, zt16, zt17, zt18, zt19, zt20, zt21, zt22, zt23, zsi, zsr, zsl, zsu, zs1, zs2, zs3, zs4, zs5, zs6, zs7, zs8, zs9, zs10, zs11, zs12, zs13, zp0, zp1, zp2, zp3, zp4, zp5, zp6, zm0, zm1, zm2, zm3, zm4, zty0, zty2, zty3, zty10, zty11, zkin_self, ztab_self, zup_app, bx_uu, Option.map_some, decide_eq_true_eq, if_true, if_false, ite_true, ite_false, true_and, and_true, Option.toList_some, Option.toList_none, List.cons_append, List.nil_append, reduceIte, List.length_cons, List.length_nil, Nat.reduceAdd, Nat.reduceLT, Nat.reduceEqDiff, Nat.reduceLeDiff, and_self, not_true_eq_false, not_false_eq_true, Int32.reduceSub, Int32.reduceAdd, Int32.reduceToNatClampNeg, Int32.reduceLE, Int32.reduceLT]
      repeat' (first | (refine zstep uP_giveFrom [43] (by decide) rfl ?_; simp only [nI_1, bP_giveFrom_0, bP_giveFrom_9, bP_giveFrom_41, bP_giveFrom_115, bP_giveFrom_121, e_const, e_lconst, e_iload, e_aload, e_lload, e_istore, e_astore, e_lstore, e_iinc, e_bin, e_un, e_div, e_mm, e_ladd, e_lcmp, e_dupi, e_dupr, e_dup2, e_popi, e_goto, e_if, e_icmp, e_sw, e_ret, e_zret0, e_zret1, e_zretb, bI_0, bI_1, bI_t, bI_f, i32_10, i32_01, e_lret, e_vret, e_getf, e_putf, e_iald, e_bald, e_aald, e_alen, e_iast, e_bast, e_aast, e_acopy, e_callS, e_callV, e_callI, e_obj, zg0, zg1, zg2, zg3, zg4, zg5, zg6, zg7, zg8, zg9, zg10, zg11, zg12, zg13, zg14, zg15, zg16, zg17, zg18, zg19, zg20, zg21, zg22, zg23, zt0, zt1, zt2, zt3, zt4, zt5, zt6, zt7, zt8, zt9, zt10, zt11, zt12, zt13, zt14, zt15, zt16, zt17, zt18, zt19, zt20, zt21, zt22, zt23, zsi, zsr, zsl, zsu, zs1, zs2, zs3, zs4, zs5, zs6, zs7, zs8, zs9, zs10, zs11, zs12, zs13, zp0, zp1, zp2, zp3, zp4, zp5, zp6, zm0, zm1, zm2, zm3, zm4, zty0, zty2, zty3, zty10, zty11, zkin_self, ztab_self, zup_app, bx_uu, Option.map_some, decide_eq_true_eq, if_true, if_false, ite_true, ite_false, true_and, and_true, Option.toList_some, Option.toList_none, List.cons_append, List.nil_append, reduceIte, List.length_cons, List.length_nil, Nat.reduceAdd, Nat.reduceLT, Nat.reduceEqDiff, Nat.reduceLeDiff, and_self, not_true_eq_false, not_false_eq_true, Int32.reduceSub, Int32.reduceAdd, Int32.reduceToNatClampNeg, Int32.reduceLE, Int32.reduceLT]) | (exact True.intro) | (refine ite_in ?_ ?_ <;> intro _) | (refine zsw_in ?_ ?_ <;> (first | (intro e0; subst e0) | intro _)) | (refine zsw_out ?_))
      exact r
    · obtain ⟨m, hm⟩ : ∃ m, lf i = m + 1 := ⟨lf i - 1, by omega⟩
      have hsum : sm + ern p * cs i = nS (fun q => ern q * cs ((fun j => if j = p then i else gv j) q)) (p + 1) := by
        show _ = nS (fun q => ern q * cs (if q = p then i else gv q)) p + ern p * cs (if p = p then i else gv p)
        rw [if_pos rfl, hsm, nS_congr (f := fun q => ern q * cs (if q = p then i else gv q)) (g := fun q => ern q * cs (gv q)) (fun k hk => by show ern k * cs (if k = p then i else gv k) = _; rw [if_neg (by omega)])]
      have fr1 : ∀ a, ¬ a = 156 → ¬ a = 157 → va_up (va_up Mc 156 (.inl (0, 9, .inl (upd LFc i (nI m))))) 157 (.inl (0, 6, .inl (upd GVc p (nI i)))) a = Mc a := by
        intro a ha1 ha2
        simp only [zup_app]
        rw [if_neg ha2, if_neg ha1]
      have hG1 : gG Fc CO (upd LFc i (nI m)) (upd GVc p (nI i)) BSc (va_up (va_up Mc 156 (.inl (0, 9, .inl (upd LFc i (nI m))))) 157 (.inl (0, 6, .inl (upd GVc p (nI i))))) := ⟨(fr1 154 (by omega) (by omega)).trans g1, (fr1 155 (by omega) (by omega)).trans g2, rfl, rfl, (fr1 158 (by omega) (by omega)).trans g5⟩
      obtain ⟨M2, r2, fr2, F2, LF2, GV2, BS2, hG2, hL2, hV2, hF2, hU2⟩ := IH _ (fun j => if j = p then i else gv j) (fun h => if h = i then m else lf h) Fc (sm + ern p * cs i) (upd LFc i (nI m)) (upd GVc p (nI i)) BSc hG1 (gT_fr hT (fun k a b => fr1 k (by omega) (by omega))) (fun h hh => by
          by_cases c : h = i
          · subst c
            rw [pk_us, if_pos rfl]
          · rw [pk_un c, if_neg c]; exact hL h hh) (fun j hj => by
          by_cases c : j = p
          · subst c
            rw [pk_us, if_pos rfl]
          · rw [pk_un c, if_neg c]; exact hV j (by omega)) (fun j hj => by
          show (if j = p then i else gv j) < nh
          by_cases c : j = p
          · rw [if_pos c]; exact hin
          · rw [if_neg c]; exact hgv j (by omega)) (fun h hh => by
          have q1 : cnt1 (fun j => if j = p then i else gv j) h (p + 1) = cnt1 gv h p + (if i = h then 1 else 0) := by
            rw [cnt_succ, cnt_congr (f := gv) (fun j hj => by show (if j = p then i else gv j) = gv j; rw [if_neg (by omega)])]
            show cnt1 gv h p + (if (if p = p then i else gv p) = h then 1 else 0) = _
            rw [if_pos rfl]
          rw [q1]
          show (if h = i then m else lf h) + _ = _
          have q2 := hlf h hh
          by_cases c : h = i
          · subst c
            rw [if_pos rfl, if_pos rfl]
            omega
          · rw [if_neg c, if_neg (fun q => c q.symm)]
            omega) (by
          have q1 := nS_chg lf (fun h => if h = i then m else lf h) (m := i) (fun k hk => by show lf k = if k = i then m else lf k; rw [if_neg hk]) nh hin
          have q1 : nS lf nh + (if i = i then m else lf i) = nS (fun h => if h = i then m else lf h) nh + lf i := q1
          rw [if_pos rfl] at q1
          omega) hsum hF
      obtain ⟨g1', g2', g3', g4', g5'⟩ := id hG2
      have hL2i := hL2 i hin
      have hL2i : LF2 i = nI m := by
        rw [hL2i]
        show nI (if i = i then m else lf i) = nI m
        rw [if_pos rfl]
      have fr3 : ∀ a, ¬ a = 156 → va_up M2 156 (.inl (0, 9, .inl (upd LF2 i (nI (m + 1))))) a = M2 a := by
        intro a ha1
        simp only [zup_app]
        rw [if_neg ha1]
      have hT2 : gT nh np hall er tp tax warm M2 := gT_fr hT (fun k a b => (fr2 k (by omega)).trans (fr1 k (by omega) (by omega)))
      have hU3 : Upd ern cs np (fun g => Cmp H nh np p gv g ∧ g p < i + 1) F BS F2 BS2 := by
        refine Upd_iff (fun g => ?_) (Upd_seq hU hU2 (fun b g hb' hg => ?_) (fun g hg j hj => by have := hg.2.1 j hj; omega))
        · constructor
          · rintro (⟨q1, q2⟩ | q)
            · exact ⟨q1, by omega⟩
            · refine ⟨⟨fun j hj => ?_, q.2⟩, ?_⟩
              · have := q.1 j (by omega)
                have : g j = if j = p then i else gv j := this
                rw [if_neg (by omega)] at this
                exact this
              · have := q.1 p (by omega)
                have : g p = if p = p then i else gv p := this
                rw [if_pos rfl] at this
                omega
          · rintro ⟨q1, q2⟩
            by_cases c : g p = i
            · refine Or.inr ⟨fun j hj => ?_, q1.2⟩
              show g j = if j = p then i else gv j
              by_cases cj : j = p
              · rw [if_pos cj, cj]; exact c
              · rw [if_neg cj]; exact q1.1 j (by omega)
            · exact Or.inl ⟨q1, by omega⟩
        · refine Nat.le_of_lt (vl_lt (i := p) (fun j hj => ?_) ?_ np (by omega) (fun j hj => by have := hb'.1.2.1 j hj; omega))
          · rw [hb'.1.1 j hj]
            have := hg.1 j (by omega)
            have : g j = if j = p then i else gv j := this
            rw [this, if_neg (by omega)]
          · have := hg.1 p (by omega)
            have : g p = if p = p then i else gv p := this
            rw [if_pos rfl] at this
            have := hb'.2
            omega
      obtain ⟨M', r, post⟩ := ih (i + 1) (by omega) (va_up M2 156 (.inl (0, 9, .inl (upd LF2 i (nI (m + 1)))))) F2 (upd LF2 i (nI (m + 1))) GV2 BS2 ⟨(fr3 154 (by omega)).trans g1', (fr3 155 (by omega)).trans g2', rfl, (fr3 157 (by omega)).trans g4', (fr3 158 (by omega)).trans g5'⟩ (gT_fr hT2 (fun k a b => fr3 k (by omega))) (fun a ha => (fr3 a (by omega)).trans ((fr2 a ha).trans ((fr1 a (by omega) (by omega)).trans (fr a ha)))) (fun h hh => by
          by_cases c : h = i
          · subst c
            rw [pk_us, hm]
          · rw [pk_un c, hL2 h hh]
            show nI (if h = i then m else lf h) = _
            rw [if_neg c]) (fun j hj => by
          rw [hV2 j (by omega)]
          show nI (if j = p then i else gv j) = _
          rw [if_neg (by omega)]) hF2 hU3
      refine ⟨M', ?_, post⟩
      have nle : (nI (m + 1) ≤ 0) = False := eq_false (nI_nle (by omega) (by have := cnt_mono H i (Nat.le_refl np); have : cnt1 H i np ≤ 1 * np := nS_le (fun k hk => by show (if H k = i then 1 else 0) ≤ 1; split <;> omega); omega))
      refine tP_giveFrom_43 _ _ _ ?_
      simp only [bP_giveFrom_43, g1, g2, g3, g4, h9, h12, nge, zi, zp, hLi, hm, nle, nI_pred, he p (by omega), hc i hin, pk_mul, nI_add, nI_1, e_const, e_lconst, e_iload, e_aload, e_lload, e_istore, e_astore, e_lstore, e_iinc, e_bin, e_un, e_div, e_mm, e_ladd, e_lcmp, e_dupi, e_dupr, e_dup2, e_popi, e_goto, e_if, e_icmp, e_sw, e_ret, e_zret0, e_zret1, e_zretb, bI_0, bI_1, bI_t, bI_f, i32_10, i32_01, e_lret, e_vret, e_getf, e_putf, e_iald, e_bald, e_aald, e_alen, e_iast, e_bast, e_aast, e_acopy, e_callS, e_callV, e_callI, e_obj, zg0, zg1, zg2, zg3, zg4, zg5, zg6, zg7, zg8, zg9, zg10, zg11, zg12, zg13, zg14, zg15, zg16, zg17, zg18, zg19, zg20, zg21, zg22, zg23, zt0, zt1, zt2, zt3, zt4, zt5, zt6, zt7, zt8, zt9, zt10, zt11, zt12, zt13, zt14, zt15, zt16, zt17, zt18, zt19, zt20, zt21, zt22, zt23, zsi, zsr, zsl, zsu, zs1, zs2, zs3, zs4, zs5, zs6, zs7, zs8, zs9, zs10, zs11, zs12, zs13, zp0, zp1, zp2, zp3, zp4, zp5, zp6, zm0, zm1, zm2, zm3, zm4, zty0, zty2, zty3, zty10, zty11, zkin_self, ztab_self, zup_app, bx_uu, Option.map_some, decide_eq_true_eq, if_true, if_false, ite_true, ite_false, true_and, and_true, Option.toList_some, Option.toList_none, List.cons_append, List.nil_append, reduceIte, List.length_cons, List.length_nil, Nat.reduceAdd, Nat.reduceLT, Nat.reduceEqDiff, Nat.reduceLeDiff, and_self, not_true_eq_false, not_false_eq_true, Int32.reduceSub, Int32.reduceAdd, Int32.reduceToNatClampNeg, Int32.reduceLE, Int32.reduceLT]
      refine ⟨_, r2, ?_⟩
      simp only [g1', g3', zi, hL2i, nI_1, e_const, e_lconst, e_iload, e_aload, e_lload, e_istore, e_astore, e_lstore, e_iinc, e_bin, e_un, e_div, e_mm, e_ladd, e_lcmp, e_dupi, e_dupr, e_dup2, e_popi, e_goto, e_if, e_icmp, e_sw, e_ret, e_zret0, e_zret1, e_zretb, bI_0, bI_1, bI_t, bI_f, i32_10, i32_01, e_lret, e_vret, e_getf, e_putf, e_iald, e_bald, e_aald, e_alen, e_iast, e_bast, e_aast, e_acopy, e_callS, e_callV, e_callI, e_obj, zg0, zg1, zg2, zg3, zg4, zg5, zg6, zg7, zg8, zg9, zg10, zg11, zg12, zg13, zg14, zg15, zg16, zg17, zg18, zg19, zg20, zg21, zg22, zg23, zt0, zt1, zt2, zt3, zt4, zt5, zt6, zt7, zt8, zt9, zt10, zt11, zt12, zt13, zt14, zt15, zt16, zt17, zt18, zt19, zt20, zt21, zt22, zt23, zsi, zsr, zsl, zsu, zs1, zs2, zs3, zs4, zs5, zs6, zs7, zs8, zs9, zs10, zs11, zs12, zs13, zp0, zp1, zp2, zp3, zp4, zp5, zp6, zm0, zm1, zm2, zm3, zm4, zty0, zty2, zty3, zty10, zty11, zkin_self, ztab_self, zup_app, bx_uu, Option.map_some, decide_eq_true_eq, if_true, if_false, ite_true, ite_false, true_and, and_true, Option.toList_some, Option.toList_none, List.cons_append, List.nil_append, reduceIte, List.length_cons, List.length_nil, Nat.reduceAdd, Nat.reduceLT, Nat.reduceEqDiff, Nat.reduceLeDiff, and_self, not_true_eq_false, not_false_eq_true, Int32.reduceSub, Int32.reduceAdd, Int32.reduceToNatClampNeg, Int32.reduceLE, Int32.reduceLT]
      repeat' (first | (refine zstep uP_giveFrom [43] (by decide) rfl ?_; simp only [nI_1, bP_giveFrom_0, bP_giveFrom_9, bP_giveFrom_41, bP_giveFrom_115, bP_giveFrom_121, e_const, e_lconst, e_iload, e_aload, e_lload, e_istore, e_astore, e_lstore, e_iinc, e_bin, e_un, e_div, e_mm, e_ladd, e_lcmp, e_dupi, e_dupr, e_dup2, e_popi, e_goto, e_if, e_icmp, e_sw, e_ret, e_zret0, e_zret1, e_zretb, bI_0, bI_1, bI_t, bI_f, i32_10, i32_01, e_lret, e_vret, e_getf, e_putf, e_iald, e_bald, e_aald, e_alen, e_iast, e_bast, e_aast, e_acopy, e_callS, e_callV, e_callI, e_obj, zg0, zg1, zg2, zg3, zg4, zg5, zg6, zg7, zg8, zg9, zg10, zg11, zg12, zg13, zg14, zg15, zg16, zg17, zg18, zg19, zg20, zg21, zg22, zg23, zt0, zt1, zt2, zt3, zt4, zt5, zt6, zt7, zt8, zt9, zt10, zt11, zt12, zt13, zt14, zt15, zt16, zt17, zt18, zt19, zt20, zt21, zt22, zt23, zsi, zsr, zsl, zsu, zs1, zs2, zs3, zs4, zs5, zs6, zs7, zs8, zs9, zs10, zs11, zs12, zs13, zp0, zp1, zp2, zp3, zp4, zp5, zp6, zm0, zm1, zm2, zm3, zm4, zty0, zty2, zty3, zty10, zty11, zkin_self, ztab_self, zup_app, bx_uu, Option.map_some, decide_eq_true_eq, if_true, if_false, ite_true, ite_false, true_and, and_true, Option.toList_some, Option.toList_none, List.cons_append, List.nil_append, reduceIte, List.length_cons, List.length_nil, Nat.reduceAdd, Nat.reduceLT, Nat.reduceEqDiff, Nat.reduceLeDiff, and_self, not_true_eq_false, not_false_eq_true, Int32.reduceSub, Int32.reduceAdd, Int32.reduceToNatClampNeg, Int32.reduceLE, Int32.reduceLT]) | (exact True.intro) | (refine ite_in ?_ ?_ <;> intro _) | (refine zsw_in ?_ ?_ <;> (first | (intro e0; subst e0) | intro _)) | (refine zsw_out ?_))
      exact r
end GF
