section GE
variable {N S d : Nat} {nh np : Nat} {hall er tp : Nat → Int32} {tax warm : Int32} {ern cs H : Nat → Nat} {CO : Nat → Int32}
theorem sP_giveFrom (hb : nh ≤ 9) (hb2 : np ≤ 6) (he : ∀ j, j < np → er j = nI (ern j)) (hc : ∀ h, h < nh → CO h = nI (cs h)) (he9 : ∀ j, j < np → ern j ≤ 9) (hc12 : ∀ h, h < nh → cs h ≤ 12) : ∀ (k p : Nat), p + k = np → ∀ (M : zHp) (gv lf : Nat → Nat) (F sm : Nat) (LF GV BS : Nat → Int32), gG F CO LF GV BS M → gT nh np hall er tp tax warm M → (∀ h, h < nh → LF h = nI (lf h)) → (∀ j, j < p → GV j = nI (gv j)) → (∀ j, j < p → gv j < nh) → (∀ h, h < nh → lf h + cnt1 gv h p = cnt1 H h np) → nS lf nh = k → sm = nS (fun q => ern q * cs (gv q)) p → F < 2 ^ 31 → (∀ j, j < np → H j < nh) → ∃ M', zRuns (d + k) mP_giveFrom [.ref 154, .int (nI p), .int (nI sm)] M N S (none, M', N, S) ∧ gPost ern cs H nh np p gv lf F CO BS M M' := by
  intro k
  induction k with
  | zero =>
    intro p hp M gv lf F sm LF GV BS hG hT hL hV hgv hlf hS hsm hF hH
    obtain rfl : p = np := by omega
    obtain ⟨g1, g2, g3, g4, g5⟩ := id hG
    obtain ⟨h9, h10, h11, h12, h13⟩ := id hT
    have hsb : sm ≤ 108 * p := by
      rw [hsm]
      refine nS_le (fun j hj => ?_)
      exact Nat.mul_le_mul (he9 j hj) (hc12 _ (hgv j hj))
    have hcost : ∀ g, Cmp H nh p p gv g → cstG ern cs p g = sm := by
      intro g hg
      rw [hsm]
      exact nS_congr (fun j hj => by show ern j * cs (g j) = ern j * cs (gv j); rw [hg.1 j hj])
    by_cases c : F ≤ sm
    · refine ⟨M, ?_, fun _ _ => rfl, F, LF, GV, BS, hG, hL, hV, hF, Or.inl ⟨rfl, rfl, fun g hg => by rw [hcost g hg]; exact c⟩⟩
      refine zenter (n := 1) kP_giveFrom rfl rfl ?_
      repeat' (first | (refine zstep uP_giveFrom [] (by decide) rfl ?_; simp only [g1, List.replicate, show (nI sm < nI F) = False from eq_false (nI_nlt c (by omega)), bP_giveFrom_0, bP_giveFrom_9, bP_giveFrom_41, bP_giveFrom_43, bP_giveFrom_115, bP_giveFrom_121, e_const, e_lconst, e_iload, e_aload, e_lload, e_istore, e_astore, e_lstore, e_iinc, e_bin, e_un, e_div, e_mm, e_ladd, e_lcmp, e_dupi, e_dupr, e_dup2, e_popi, e_goto, e_if, e_icmp, e_sw, e_ret, e_zret0, e_zret1, e_zretb, bI_0, bI_1, bI_t, bI_f, i32_10, i32_01, e_lret, e_vret, e_getf, e_putf, e_iald, e_bald, e_aald, e_alen, e_iast, e_bast, e_aast, e_acopy, e_callS, e_callV, e_callI, e_obj, zg0, zg1, zg2, zg3, zg4, zg5, zg6, zg7, zg8, zg9, zg10, zg11, zg12, zg13, zg14, zg15, zg16, zg17, zg18, zg19, zg20, zg21, zg22, zg23, zt0, zt1, zt2, zt3, zt4, zt5, zt6, zt7, zt8, zt9, zt10, zt11, zt12, zt13, zt14, zt15, zt16, zt17, zt18, zt19, zt20, zt21, zt22, zt23, zsi, zsr, zsl, zsu, zs1, zs2, zs3, zs4, zs5, zs6, zs7, zs8, zs9, zs10, zs11, zs12, zs13, zp0, zp1, zp2, zp3, zp4, zp5, zp6, zm0, zm1, zm2, zm3, zm4, zty0, zty2, zty3, zty10, zty11, zkin_self, ztab_self, zup_app, bx_uu, Option.map_some, decide_eq_true_eq, if_true, if_false, ite_true, ite_false, true_and, and_true, Option.toList_some, Option.toList_none, List.cons_append, List.nil_append, reduceIte, List.length_cons, List.length_nil, Nat.reduceAdd, Nat.reduceLT, Nat.reduceEqDiff, Nat.reduceLeDiff, and_self, not_true_eq_false, not_false_eq_true, Int32.reduceSub, Int32.reduceAdd, Int32.reduceToNatClampNeg, Int32.reduceLE, Int32.reduceLT]) | (exact True.intro) | (refine ite_in ?_ ?_ <;> intro _) | (refine zsw_in ?_ ?_ <;> (first | (intro e0; subst e0) | intro _)) | (refine zsw_out ?_))
    · refine ⟨va_up (va_up M 154 (.inr (8, [.ref 9, .ref 15, .ref 155, .ref 156, .ref 157, .ref 158, .int (nI sm)]))) 158 (.inl (0, 6, .inl (va_cpy GV BS 0 0 6))), ?_, fun a ha => ?_, sm, LF, GV, va_cpy GV BS 0 0 6, ⟨rfl, ?_, ?_, ?_, rfl⟩, hL, hV, by omega, Or.inr ⟨gv, ⟨fun _ _ => rfl, hgv, fun h => ?_⟩, ?_, by omega, fun j hj => ?_, fun g hg => ?_⟩⟩
      · refine zenter (n := 1) kP_giveFrom rfl rfl ?_
        repeat' (first | (refine zstep uP_giveFrom [] (by decide) rfl ?_; simp only [g1, g4, g5, h9, List.replicate, show (nI sm < nI F) = True from eq_true (nI_lt (by omega) hF), show (nI p < nI p) = False from eq_false (nI_nlt (Nat.le_refl _) (by omega)), show ((6 : Int32) < 0) = False by decide, show ((0 : Int32) < 0) = False by decide, bP_giveFrom_0, bP_giveFrom_9, bP_giveFrom_41, bP_giveFrom_43, bP_giveFrom_115, bP_giveFrom_121, e_const, e_lconst, e_iload, e_aload, e_lload, e_istore, e_astore, e_lstore, e_iinc, e_bin, e_un, e_div, e_mm, e_ladd, e_lcmp, e_dupi, e_dupr, e_dup2, e_popi, e_goto, e_if, e_icmp, e_sw, e_ret, e_zret0, e_zret1, e_zretb, bI_0, bI_1, bI_t, bI_f, i32_10, i32_01, e_lret, e_vret, e_getf, e_putf, e_iald, e_bald, e_aald, e_alen, e_iast, e_bast, e_aast, e_acopy, e_callS, e_callV, e_callI, e_obj, zg0, zg1, zg2, zg3, zg4, zg5, zg6, zg7, zg8, zg9, zg10, zg11, zg12, zg13, zg14, zg15, zg16, zg17, zg18, zg19, zg20, zg21, zg22, zg23, zt0, zt1, zt2, zt3, zt4, zt5, zt6, zt7, zt8, zt9, zt10, zt11, zt12, zt13, zt14, zt15, zt16, zt17, zt18, zt19, zt20, zt21, zt22, zt23, zsi, zsr, zsl, zsu, zs1, zs2, zs3, zs4, zs5, zs6, zs7, zs8, zs9, zs10, zs11, zs12, zs13, zp0, zp1, zp2, zp3, zp4, zp5, zp6, zm0, zm1, zm2, zm3, zm4, zty0, zty2, zty3, zty10, zty11, zkin_self, ztab_self, zup_app, bx_uu, Option.map_some, decide_eq_true_eq, if_true, if_false, ite_true, ite_false, true_and, and_true, Option.toList_some, Option.toList_none, List.cons_append, List.nil_append, reduceIte, List.length_cons, List.length_nil, Nat.reduceAdd, Nat.reduceLT, Nat.reduceEqDiff, Nat.reduceLeDiff, and_self, not_true_eq_false, not_false_eq_true, Int32.reduceSub, Int32.reduceAdd, Int32.reduceToNatClampNeg, Int32.reduceLE, Int32.reduceLT]) | (exact True.intro) | (refine ite_in ?_ ?_ <;> intro _) | (refine zsw_in ?_ ?_ <;> (first | (intro e0; subst e0) | intro _)) | (refine zsw_out ?_))
      · simp only [zup_app]
        rw [if_neg (by omega), if_neg (by omega)]
      · simp only [zup_app]
        rw [if_neg (by omega), if_neg (by omega)]
        exact g2
      · simp only [zup_app]
        rw [if_neg (by omega), if_neg (by omega)]
        exact g3
      · simp only [zup_app]
        rw [if_neg (by omega), if_neg (by omega)]
        exact g4
      · by_cases ch : h < nh
        · have q1 := hlf h ch
          have q2 := nS_ge (f := lf) (i := h) nh ch
          omega
        · rw [cnt_out (by omega) p hgv, cnt_out (by omega) p hH]
      · exact hcost gv ⟨fun _ _ => rfl, hgv, fun h => by
          by_cases ch : h < nh
          · have q1 := hlf h ch
            have q2 := nS_ge (f := lf) (i := h) nh ch
            omega
          · rw [cnt_out (by omega) p hgv, cnt_out (by omega) p hH]⟩
      · rw [sb_cpy0 (by omega)]
        exact hV j hj
      · unfold keyG cstG
        rw [nS_congr (f := fun q => ern q * cs (gv q)) (g := fun q => ern q * cs (g q)) (fun j hj => by show ern j * cs (gv j) = ern j * cs (g j); rw [hg.1 j hj]), vl_congr (x := gv) (y := g) (fun j hj => (hg.1 j hj).symm)]
        exact Nat.le_refl _
  | succ k ih =>
    intro p hp M gv lf F sm LF GV BS hG hT hL hV hgv hlf hS hsm hF hH
    obtain ⟨g1, g2, g3, g4, g5⟩ := id hG
    obtain ⟨h9, h10, h11, h12, h13⟩ := id hT
    have hsb : sm ≤ 108 * p := by
      rw [hsm]
      refine nS_le (fun j hj => ?_)
      exact Nat.mul_le_mul (he9 j (by omega)) (hc12 _ (hgv j hj))
    by_cases c : F ≤ sm
    · refine ⟨M, ?_, fun _ _ => rfl, F, LF, GV, BS, hG, hL, hV, hF, Or.inl ⟨rfl, rfl, fun g hg => ?_⟩⟩
      · refine zenter (n := 1) kP_giveFrom rfl rfl ?_
        repeat' (first | (refine zstep uP_giveFrom [] (by decide) rfl ?_; simp only [g1, List.replicate, show (nI sm < nI F) = False from eq_false (nI_nlt c (by omega)), bP_giveFrom_0, bP_giveFrom_9, bP_giveFrom_41, bP_giveFrom_43, bP_giveFrom_115, bP_giveFrom_121, e_const, e_lconst, e_iload, e_aload, e_lload, e_istore, e_astore, e_lstore, e_iinc, e_bin, e_un, e_div, e_mm, e_ladd, e_lcmp, e_dupi, e_dupr, e_dup2, e_popi, e_goto, e_if, e_icmp, e_sw, e_ret, e_zret0, e_zret1, e_zretb, bI_0, bI_1, bI_t, bI_f, i32_10, i32_01, e_lret, e_vret, e_getf, e_putf, e_iald, e_bald, e_aald, e_alen, e_iast, e_bast, e_aast, e_acopy, e_callS, e_callV, e_callI, e_obj, zg0, zg1, zg2, zg3, zg4, zg5, zg6, zg7, zg8, zg9, zg10, zg11, zg12, zg13, zg14, zg15, zg16, zg17, zg18, zg19, zg20, zg21, zg22, zg23, zt0, zt1, zt2, zt3, zt4, zt5, zt6, zt7, zt8, zt9, zt10, zt11, zt12, zt13, zt14, zt15, zt16, zt17, zt18, zt19, zt20, zt21, zt22, zt23, zsi, zsr, zsl, zsu, zs1, zs2, zs3, zs4, zs5, zs6, zs7, zs8, zs9, zs10, zs11, zs12, zs13, zp0, zp1, zp2, zp3, zp4, zp5, zp6, zm0, zm1, zm2, zm3, zm4, zty0, zty2, zty3, zty10, zty11, zkin_self, ztab_self, zup_app, bx_uu, Option.map_some, decide_eq_true_eq, if_true, if_false, ite_true, ite_false, true_and, and_true, Option.toList_some, Option.toList_none, List.cons_append, List.nil_append, reduceIte, List.length_cons, List.length_nil, Nat.reduceAdd, Nat.reduceLT, Nat.reduceEqDiff, Nat.reduceLeDiff, and_self, not_true_eq_false, not_false_eq_true, Int32.reduceSub, Int32.reduceAdd, Int32.reduceToNatClampNeg, Int32.reduceLE, Int32.reduceLT]) | (exact True.intro) | (refine ite_in ?_ ?_ <;> intro _) | (refine zsw_in ?_ ?_ <;> (first | (intro e0; subst e0) | intro _)) | (refine zsw_out ?_))
      · refine Nat.le_trans c ?_
        rw [hsm, nS_congr (f := fun q => ern q * cs (gv q)) (g := fun q => ern q * cs (g q)) (fun j hj => by show ern j * cs (gv j) = ern j * cs (g j); rw [hg.1 j hj])]
        exact nS_mono _ np (by omega)
    · obtain ⟨M', r, post⟩ := sP_giveLoop (d := d) (N := N) (S := S) (F := F) (BS := BS) (M := M) hb hb2 he hc hp hgv hlf hS hsm (fun M gv lf F sm LF GV BS a1 a2 a3 a4 a5 a6 a7 a8 a9 => ih (p + 1) (by omega) M gv lf F sm LF GV BS a1 a2 a3 a4 a5 a6 a7 a8 a9 hH) nh 0 (by omega) M F LF GV BS hG hT (fun _ _ => rfl) hL hV hF (Or.inl ⟨rfl, rfl, fun g hg => absurd hg.2 (Nat.not_lt_zero _)⟩)
      refine ⟨M', ?_, post⟩
      refine zenter (n := 1) kP_giveFrom rfl rfl ?_
      repeat' (first | (refine zstep uP_giveFrom [43] (by decide) rfl ?_; simp only [g1, h9, List.replicate, show (nI sm < nI F) = True from eq_true (nI_lt (by omega) hF), show (nI p < nI np) = True from eq_true (nI_lt (by omega) (by omega)), bP_giveFrom_0, bP_giveFrom_9, bP_giveFrom_41, bP_giveFrom_115, bP_giveFrom_121, e_const, e_lconst, e_iload, e_aload, e_lload, e_istore, e_astore, e_lstore, e_iinc, e_bin, e_un, e_div, e_mm, e_ladd, e_lcmp, e_dupi, e_dupr, e_dup2, e_popi, e_goto, e_if, e_icmp, e_sw, e_ret, e_zret0, e_zret1, e_zretb, bI_0, bI_1, bI_t, bI_f, i32_10, i32_01, e_lret, e_vret, e_getf, e_putf, e_iald, e_bald, e_aald, e_alen, e_iast, e_bast, e_aast, e_acopy, e_callS, e_callV, e_callI, e_obj, zg0, zg1, zg2, zg3, zg4, zg5, zg6, zg7, zg8, zg9, zg10, zg11, zg12, zg13, zg14, zg15, zg16, zg17, zg18, zg19, zg20, zg21, zg22, zg23, zt0, zt1, zt2, zt3, zt4, zt5, zt6, zt7, zt8, zt9, zt10, zt11, zt12, zt13, zt14, zt15, zt16, zt17, zt18, zt19, zt20, zt21, zt22, zt23, zsi, zsr, zsl, zsu, zs1, zs2, zs3, zs4, zs5, zs6, zs7, zs8, zs9, zs10, zs11, zs12, zs13, zp0, zp1, zp2, zp3, zp4, zp5, zp6, zm0, zm1, zm2, zm3, zm4, zty0, zty2, zty3, zty10, zty11, zkin_self, ztab_self, zup_app, bx_uu, Option.map_some, decide_eq_true_eq, if_true, if_false, ite_true, ite_false, true_and, and_true, Option.toList_some, Option.toList_none, List.cons_append, List.nil_append, reduceIte, List.length_cons, List.length_nil, Nat.reduceAdd, Nat.reduceLT, Nat.reduceEqDiff, Nat.reduceLeDiff, and_self, not_true_eq_false, not_false_eq_true, Int32.reduceSub, Int32.reduceAdd, Int32.reduceToNatClampNeg, Int32.reduceLE, Int32.reduceLT]) | (exact True.intro) | (refine ite_in ?_ ?_ <;> intro _) | (refine zsw_in ?_ ?_ <;> (first | (intro e0; subst e0) | intro _)) | (refine zsw_out ?_))
      exact r
end GE
/-- a bit of a way, as a number -/
def btN (w : Int32) (h : Nat) : Nat := ((w >>> (nI h &&& 31)) &&& 1).toNatClampNeg
theorem btN_eq (w : Int32) (h : Nat) : (w >>> (nI h &&& 31)) &&& 1 = nI (btN w h) ∧ btN w h ≤ 1 := by
  unfold btN
  rcases and1 (w >>> (nI h &&& 31)) with e | e
  · rw [e]; decide
  · rw [e]; decide
theorem fSum_nS {f : Nat → Int32} {g : Nat → Nat} : ∀ n : Nat, (∀ k, k < n → f k = nI (g k)) → fSum f n = nI (nS g n)
  | 0, _ => rfl
  | n + 1, h => by
    show fSum f n + f n = nI (nS g n + g n)
    rw [fSum_nS n (fun k hk => h k (by omega)), h n (by omega), nI_add]
def csN (hall : Nat → Int32) (nh : Nat) (ot : Int32) (np : Nat) (H : Nat → Nat) (h : Nat) : Nat := 2 * nS (fun p => btN (fWay hall nh h ot) (H p)) np
theorem csN_le {hall : Nat → Int32} {nh : Nat} {ot : Int32} {np : Nat} {H : Nat → Nat} {h : Nat} (hb2 : np ≤ 6) : csN hall nh ot np H h ≤ 12 := by
  have := nS_le (f := fun p => btN (fWay hall nh h ot) (H p)) (K := 1) (n := np) (fun k _ => (btN_eq _ _).2)
  unfold csN
  omega
/-- the passings of homes given anew -/
theorem fPsg_cst {hall er : Nat → Int32} {nh np : Nat} {ot : Int32} {H ern g : Nat → Nat} {G : Nat → Int32} (hG : ∀ j, j < np → G j = nI (g j)) (he : ∀ j, j < np → er j = nI (ern j)) (hb : nh ≤ 9) (hg : Arr H nh np g) : fPsg hall nh er G ot np = nI (cstG ern (csN hall nh ot np H) np g) := by
  rw [← fPsg_eq]
  refine fSum_nS np (fun q hq => ?_)
  have hgq := hg.1 q hq
  rw [he q hq, hG q hq, nI_clamp (by omega)]
  rw [fSum_nS (g := fun p => btN (fWay hall nh (g q) ot) (g p)) np (fun p hp => by show (_ >>> (G p &&& 31)) &&& 1 = _; rw [hG p hp]; exact (btN_eq _ _).1)]
  have e : nS (fun p => btN (fWay hall nh (g q) ot) (g p)) np = nS (fun p => btN (fWay hall nh (g q) ot) (H p)) np := by
    obtain ⟨s, hs, es⟩ := perm_of np g H hg.2
    rw [nS_congr (f := fun p => btN (fWay hall nh (g q) ot) (g p)) (g := fun p => (fun j => btN (fWay hall nh (g q) ot) (H j)) (s p)) (fun k hk => by show btN _ (g k) = btN _ (H (s k)); rw [es k hk])]
    exact nS_perm (fun j => btN (fWay hall nh (g q) ot) (H j)) np s hs
  rw [e]
  show (2 : Int32) * nI (ern q) * nI _ = nI (ern q * csN hall nh ot np H (g q))
  unfold csN
  rw [show (2 : Int32) = nI 2 from rfl, pk_mul, pk_mul]
  congr 1
  rw [Nat.mul_comm 2 (ern q), Nat.mul_assoc]
theorem Arr_self {H : Nat → Nat} {nh np : Nat} (h : ∀ j, j < np → H j < nh) : Arr H nh np H := ⟨h, fun _ => rfl⟩
