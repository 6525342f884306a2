theorem ite_in {c : Prop} [Decidable c] {A B : Prop} (ha : c → A) (hb : ¬ c → B) : if c then A else B := by
  by_cases h : c
  · rw [if_pos h]; exact ha h
  · rw [if_neg h]; exact hb h
theorem zsw_in {d : Nat} {md : zM} {c : zC} {f : zF} {k x : Int32} {t dt : Nat} {r : List (Int32 × Nat)} (h1 : x = k → zGo d md t c f) (h2 : ¬ x = k → zGo d md (zsw r dt x) c f) : zGo d md (zsw ((k, t) :: r) dt x) c f := by
  unfold zsw
  by_cases h : x = k
  · rw [if_pos h]; exact h1 h
  · rw [if_neg h]; exact h2 h
theorem zsw_out {d : Nat} {md : zM} {c : zC} {f : zF} {x : Int32} {dt : Nat} (h : zGo d md dt c f) : zGo d md (zsw [] dt x) c f := h
/-- a boolean's number -/
def bI (b : Bool) : Int32 := if b = true then 1 else 0
theorem bI_t : bI true = 1 := rfl
theorem bI_f : bI false = 0 := rfl
theorem bI_0 (b : Bool) : (bI b = 0) = (b = false) := by cases b <;> decide
theorem bI_1 (b : Bool) : (bI b = 1) = (b = true) := by cases b <;> decide
theorem i32_10 : ((1 : Int32) = 0) = False := by decide
theorem i32_01 : ((0 : Int32) = 1) = False := by decide
theorem nI_eqN {n : Nat} {x : Int32} (m : Nat) (hx : x.toInt = m) (hn : n < 2 ^ 31) : (nI n = x) = (n = m) := by
  apply propext
  constructor
  · intro h
    have : (nI n).toInt = x.toInt := by rw [h]
    rw [nI_toInt hn] at this
    omega
  · intro h
    apply Int32.toInt_inj.mp
    rw [nI_toInt hn]
    omega
theorem e_zretb {d : Nat} {md : zM} {f : zF} {is : List zI} {ls : List Value} {h : zHp × Nat × Nat} (b : Bool) : zB d md f (i_zret :: is) (ls, [.int (bI b)], h) = ((some (.int (bI b)), h) = f) := by cases b <;> rfl
theorem zup_app (M : zHp) (a : Nat) (c : zAC) (b : Nat) : va_up M a c b = if b = a then c else M b := rfl
theorem zix0_2 : zix 0 2 = some 0 := by decide
theorem zix_eq {i : Int32} {n j : Nat} (h : i = nI j) (hj : j < n) (hn : n < 2 ^ 31) : zix i n = some j := by rw [h]; exact zix_nI hj hn
/-- is the number one of 0 .. n - 1 -/
def isN (n : Nat) (h : Int32) : Bool := decide (0 ≤ h.toInt ∧ h.toInt < n)
theorem isN_of {n : Nat} {h : Int32} (hn : n < 1000) (e : isN n h = true) : ∃ j, j < n ∧ h = nI j := by
  have e : 0 ≤ h.toInt ∧ h.toInt < n := by simpa [isN] using e
  exact vp_in_of (vp_in_iff.mpr e) (by omega)
theorem isN_nI {n j : Nat} (hj : j < 2 ^ 31) : isN n (nI j) = decide (j < n) := by
  unfold isN
  rw [nI_toInt hj]
  by_cases h : j < n
  · simp [h]
  · simp [h]
theorem fx_lt (a b : Int32) : (a < b) = (a.toInt < b.toInt) := by rw [Int32.lt_iff_toInt_lt]
theorem fx_le (a b : Int32) : (a ≤ b) = (a.toInt ≤ b.toInt) := by rw [Int32.le_iff_toInt_le]
theorem fx_pred {n : Nat} (hn : n < 1000) : (nI n - 1).toInt = (n : Int) - 1 := by
  rw [Int32.toInt_sub, nI_toInt (by omega)]
  show ((n : Int) - 1).bmod (2 ^ 32) = n - 1
  apply Int.bmod_eq_of_le <;> omega
section ES
variable {M : zHp} {N S d : Nat} {ty nh np hn : Nat} {tx hall er tp hh hm nw : Nat → Int32} {tax warm : Int32} {tr : Int64}
theorem sD_isHouse (hD : gD hn M) (hT : gT nh np hall er tp tax warm M) (hb : nh < 1000) (h : Int32) : zRuns d mD_isHouse [.ref 1, .int h] M N S (some (.int (bI (isN nh h))), M, N, S) := by
  unfold gD at hD
  obtain ⟨h9, h10, h11, h12, h13⟩ := hT
  refine zenter (n := 0) kD_isHouse rfl rfl ?_
  have q := nI_toInt (n := nh) (by omega)
  have q0 : (0 : Int32).toInt = 0 := rfl
  repeat' (first | (refine zstep uD_isHouse [] (by decide) rfl ?_; simp only [hD, h9, bD_isHouse_0, bD_isHouse_19, bD_isHouse_20, e_const, e_lconst, e_iload, e_aload, e_lload, e_istore, e_astore, e_lstore, e_iinc, e_bin, e_un, e_div, e_mm, e_ladd, e_lcmp, e_dupi, e_dupr, e_dup2, e_popi, e_goto, e_if, e_icmp, e_sw, e_ret, e_zret0, e_zret1, e_zretb, bI_0, bI_1, bI_t, bI_f, i32_10, i32_01, e_lret, e_vret, e_getf, e_putf, e_iald, e_bald, e_aald, e_alen, e_iast, e_bast, e_aast, e_acopy, e_callS, e_callV, e_callI, e_obj, zg0, zg1, zg2, zg3, zg4, zg5, zg6, zg7, zg8, zg9, zg10, zg11, zg12, zg13, zg14, zg15, zg16, zg17, zg18, zg19, zg20, zg21, zg22, zg23, zt0, zt1, zt2, zt3, zt4, zt5, zt6, zt7, zt8, zt9, zt10, zt11, zt12, zt13, zt14, zt15, zt16, zt17, zt18, zt19, zt20, zt21, zt22, zt23, zsi, zsr, zsl, zsu, zs1, zs2, zs3, zs4, zs5, zs6, zs7, zs8, zs9, zs10, zs11, zs12, zs13, zp0, zp1, zp2, zp3, zp4, zp5, zp6, zm0, zm1, zm2, zm3, zm4, zty0, zty2, zty3, zty10, zty11, zkin_self, ztab_self, zup_app, bx_uu, Option.map_some, decide_eq_true_eq, if_true, if_false, ite_true, ite_false, true_and, and_true, Option.toList_some, Option.toList_none, List.cons_append, List.nil_append, reduceIte, List.length_cons, List.length_nil, Nat.reduceAdd, Nat.reduceLT, Nat.reduceEqDiff, Nat.reduceLeDiff, and_self, not_true_eq_false, not_false_eq_true, Int32.reduceSub, Int32.reduceAdd, Int32.reduceToNatClampNeg, Int32.reduceLE, Int32.reduceLT]) | (exact True.intro) | (refine ite_in ?_ ?_ <;> intro _) | (refine zsw_in ?_ ?_ <;> (first | (intro e0; subst e0) | intro _)) | (refine zsw_out ?_))
  all_goals simp only [fx_lt, fx_le, q, q0] at *
  · rw [show isN nh h = false by unfold isN; simp; omega]; rfl
  · rw [show isN nh h = false by unfold isN; simp; omega]; rfl
  · rw [show isN nh h = true by unfold isN; simp; omega]; rfl
theorem sD_isPerson (hD : gD hn M) (hT : gT nh np hall er tp tax warm M) (hb : np < 1000) (h : Int32) : zRuns d mD_isPerson [.ref 1, .int h] M N S (some (.int (bI (isN np h))), M, N, S) := by
  unfold gD at hD
  obtain ⟨h9, h10, h11, h12, h13⟩ := hT
  refine zenter (n := 0) kD_isPerson rfl rfl ?_
  have q := nI_toInt (n := np) (by omega)
  have q0 : (0 : Int32).toInt = 0 := rfl
  repeat' (first | (refine zstep uD_isPerson [] (by decide) rfl ?_; simp only [hD, h9, bD_isPerson_0, bD_isPerson_19, bD_isPerson_20, e_const, e_lconst, e_iload, e_aload, e_lload, e_istore, e_astore, e_lstore, e_iinc, e_bin, e_un, e_div, e_mm, e_ladd, e_lcmp, e_dupi, e_dupr, e_dup2, e_popi, e_goto, e_if, e_icmp, e_sw, e_ret, e_zret0, e_zret1, e_zretb, bI_0, bI_1, bI_t, bI_f, i32_10, i32_01, e_lret, e_vret, e_getf, e_putf, e_iald, e_bald, e_aald, e_alen, e_iast, e_bast, e_aast, e_acopy, e_callS, e_callV, e_callI, e_obj, zg0, zg1, zg2, zg3, zg4, zg5, zg6, zg7, zg8, zg9, zg10, zg11, zg12, zg13, zg14, zg15, zg16, zg17, zg18, zg19, zg20, zg21, zg22, zg23, zt0, zt1, zt2, zt3, zt4, zt5, zt6, zt7, zt8, zt9, zt10, zt11, zt12, zt13, zt14, zt15, zt16, zt17, zt18, zt19, zt20, zt21, zt22, zt23, zsi, zsr, zsl, zsu, zs1, zs2, zs3, zs4, zs5, zs6, zs7, zs8, zs9, zs10, zs11, zs12, zs13, zp0, zp1, zp2, zp3, zp4, zp5, zp6, zm0, zm1, zm2, zm3, zm4, zty0, zty2, zty3, zty10, zty11, zkin_self, ztab_self, zup_app, bx_uu, Option.map_some, decide_eq_true_eq, if_true, if_false, ite_true, ite_false, true_and, and_true, Option.toList_some, Option.toList_none, List.cons_append, List.nil_append, reduceIte, List.length_cons, List.length_nil, Nat.reduceAdd, Nat.reduceLT, Nat.reduceEqDiff, Nat.reduceLeDiff, and_self, not_true_eq_false, not_false_eq_true, Int32.reduceSub, Int32.reduceAdd, Int32.reduceToNatClampNeg, Int32.reduceLE, Int32.reduceLT]) | (exact True.intro) | (refine ite_in ?_ ?_ <;> intro _) | (refine zsw_in ?_ ?_ <;> (first | (intro e0; subst e0) | intro _)) | (refine zsw_out ?_))
  all_goals simp only [fx_lt, fx_le, q, q0] at *
  · rw [show isN np h = false by unfold isN; simp; omega]; rfl
  · rw [show isN np h = false by unfold isN; simp; omega]; rfl
  · rw [show isN np h = true by unfold isN; simp; omega]; rfl
theorem sD_isStart (h : Int32) : zRuns d mD_isStart [.int h] M N S (some (.int (bI (isN 61 h))), M, N, S) := by
  refine zenter (n := 0) kD_isStart rfl rfl ?_
  have q0 : (0 : Int32).toInt = 0 := rfl
  have q1 : (60 : Int32).toInt = 60 := rfl
  repeat' (first | (refine zstep uD_isStart [] (by decide) rfl ?_; simp only [bD_isStart_0, bD_isStart_14, bD_isStart_15, e_const, e_lconst, e_iload, e_aload, e_lload, e_istore, e_astore, e_lstore, e_iinc, e_bin, e_un, e_div, e_mm, e_ladd, e_lcmp, e_dupi, e_dupr, e_dup2, e_popi, e_goto, e_if, e_icmp, e_sw, e_ret, e_zret0, e_zret1, e_zretb, bI_0, bI_1, bI_t, bI_f, i32_10, i32_01, e_lret, e_vret, e_getf, e_putf, e_iald, e_bald, e_aald, e_alen, e_iast, e_bast, e_aast, e_acopy, e_callS, e_callV, e_callI, e_obj, zg0, zg1, zg2, zg3, zg4, zg5, zg6, zg7, zg8, zg9, zg10, zg11, zg12, zg13, zg14, zg15, zg16, zg17, zg18, zg19, zg20, zg21, zg22, zg23, zt0, zt1, zt2, zt3, zt4, zt5, zt6, zt7, zt8, zt9, zt10, zt11, zt12, zt13, zt14, zt15, zt16, zt17, zt18, zt19, zt20, zt21, zt22, zt23, zsi, zsr, zsl, zsu, zs1, zs2, zs3, zs4, zs5, zs6, zs7, zs8, zs9, zs10, zs11, zs12, zs13, zp0, zp1, zp2, zp3, zp4, zp5, zp6, zm0, zm1, zm2, zm3, zm4, zty0, zty2, zty3, zty10, zty11, zkin_self, ztab_self, zup_app, bx_uu, Option.map_some, decide_eq_true_eq, if_true, if_false, ite_true, ite_false, true_and, and_true, Option.toList_some, Option.toList_none, List.cons_append, List.nil_append, reduceIte, List.length_cons, List.length_nil, Nat.reduceAdd, Nat.reduceLT, Nat.reduceEqDiff, Nat.reduceLeDiff, and_self, not_true_eq_false, not_false_eq_true, Int32.reduceSub, Int32.reduceAdd, Int32.reduceToNatClampNeg, Int32.reduceLE, Int32.reduceLT]) | (exact True.intro) | (refine ite_in ?_ ?_ <;> intro _) | (refine zsw_in ?_ ?_ <;> (first | (intro e0; subst e0) | intro _)) | (refine zsw_out ?_))
  all_goals simp only [fx_lt, fx_le, q1, q0] at *
  · rw [show isN 61 h = false by unfold isN; simp; omega]; rfl
  · rw [show isN 61 h = false by unfold isN; simp; omega]; rfl
  · rw [show isN 61 h = true by unfold isN; simp; omega]; rfl
theorem sD_isImage (h : Int32) : zRuns d mD_isImage [.int h] M N S (some (.int (bI (isN 2 h))), M, N, S) := by
  refine zenter (n := 0) kD_isImage rfl rfl ?_
  have q0 : (0 : Int32).toInt = 0 := rfl
  have q1 : (2 : Int32).toInt = 2 := rfl
  repeat' (first | (refine zstep uD_isImage [] (by decide) rfl ?_; simp only [bD_isImage_0, bD_isImage_13, bD_isImage_14, e_const, e_lconst, e_iload, e_aload, e_lload, e_istore, e_astore, e_lstore, e_iinc, e_bin, e_un, e_div, e_mm, e_ladd, e_lcmp, e_dupi, e_dupr, e_dup2, e_popi, e_goto, e_if, e_icmp, e_sw, e_ret, e_zret0, e_zret1, e_zretb, bI_0, bI_1, bI_t, bI_f, i32_10, i32_01, e_lret, e_vret, e_getf, e_putf, e_iald, e_bald, e_aald, e_alen, e_iast, e_bast, e_aast, e_acopy, e_callS, e_callV, e_callI, e_obj, zg0, zg1, zg2, zg3, zg4, zg5, zg6, zg7, zg8, zg9, zg10, zg11, zg12, zg13, zg14, zg15, zg16, zg17, zg18, zg19, zg20, zg21, zg22, zg23, zt0, zt1, zt2, zt3, zt4, zt5, zt6, zt7, zt8, zt9, zt10, zt11, zt12, zt13, zt14, zt15, zt16, zt17, zt18, zt19, zt20, zt21, zt22, zt23, zsi, zsr, zsl, zsu, zs1, zs2, zs3, zs4, zs5, zs6, zs7, zs8, zs9, zs10, zs11, zs12, zs13, zp0, zp1, zp2, zp3, zp4, zp5, zp6, zm0, zm1, zm2, zm3, zm4, zty0, zty2, zty3, zty10, zty11, zkin_self, ztab_self, zup_app, bx_uu, Option.map_some, decide_eq_true_eq, if_true, if_false, ite_true, ite_false, true_and, and_true, Option.toList_some, Option.toList_none, List.cons_append, List.nil_append, reduceIte, List.length_cons, List.length_nil, Nat.reduceAdd, Nat.reduceLT, Nat.reduceEqDiff, Nat.reduceLeDiff, and_self, not_true_eq_false, not_false_eq_true, Int32.reduceSub, Int32.reduceAdd, Int32.reduceToNatClampNeg, Int32.reduceLE, Int32.reduceLT]) | (exact True.intro) | (refine ite_in ?_ ?_ <;> intro _) | (refine zsw_in ?_ ?_ <;> (first | (intro e0; subst e0) | intro _)) | (refine zsw_out ?_))
  all_goals simp only [fx_lt, fx_le, q1, q0] at *
  · rw [show isN 2 h = false by unfold isN; simp; omega]; rfl
  · rw [show isN 2 h = false by unfold isN; simp; omega]; rfl
  · rw [show isN 2 h = true by unfold isN; simp; omega]; rfl
theorem sM_in (a b c : Int32) : zRuns d mM_in [.int a, .int b, .int c] M N S (some (.int (bI (decide (b ≤ a ∧ a ≤ c)))), M, N, S) := by
  refine zenter (n := 0) kM_in rfl rfl ?_
  repeat' (first | (refine zstep uM_in [] (by decide) rfl ?_; simp only [bM_in_0, bM_in_14, bM_in_15, e_const, e_lconst, e_iload, e_aload, e_lload, e_istore, e_astore, e_lstore, e_iinc, e_bin, e_un, e_div, e_mm, e_ladd, e_lcmp, e_dupi, e_dupr, e_dup2, e_popi, e_goto, e_if, e_icmp, e_sw, e_ret, e_zret0, e_zret1, e_zretb, bI_0, bI_1, bI_t, bI_f, i32_10, i32_01, e_lret, e_vret, e_getf, e_putf, e_iald, e_bald, e_aald, e_alen, e_iast, e_bast, e_aast, e_acopy, e_callS, e_callV, e_callI, e_obj, zg0, zg1, zg2, zg3, zg4, zg5, zg6, zg7, zg8, zg9, zg10, zg11, zg12, zg13, zg14, zg15, zg16, zg17, zg18, zg19, zg20, zg21, zg22, zg23, zt0, zt1, zt2, zt3, zt4, zt5, zt6, zt7, zt8, zt9, zt10, zt11, zt12, zt13, zt14, zt15, zt16, zt17, zt18, zt19, zt20, zt21, zt22, zt23, zsi, zsr, zsl, zsu, zs1, zs2, zs3, zs4, zs5, zs6, zs7, zs8, zs9, zs10, zs11, zs12, zs13, zp0, zp1, zp2, zp3, zp4, zp5, zp6, zm0, zm1, zm2, zm3, zm4, zty0, zty2, zty3, zty10, zty11, zkin_self, ztab_self, zup_app, bx_uu, Option.map_some, decide_eq_true_eq, if_true, if_false, ite_true, ite_false, true_and, and_true, Option.toList_some, Option.toList_none, List.cons_append, List.nil_append, reduceIte, List.length_cons, List.length_nil, Nat.reduceAdd, Nat.reduceLT, Nat.reduceEqDiff, Nat.reduceLeDiff, and_self, not_true_eq_false, not_false_eq_true, Int32.reduceSub, Int32.reduceAdd, Int32.reduceToNatClampNeg, Int32.reduceLE, Int32.reduceLT]) | (exact True.intro) | (refine ite_in ?_ ?_ <;> intro _) | (refine zsw_in ?_ ?_ <;> (first | (intro e0; subst e0) | intro _)) | (refine zsw_out ?_))
  all_goals simp only [fx_lt, fx_le] at *
  · rw [show decide (b.toInt ≤ a.toInt ∧ a.toInt ≤ c.toInt) = false by simp; omega]; rfl
  · rw [show decide (b.toInt ≤ a.toInt ∧ a.toInt ≤ c.toInt) = false by simp; omega]; rfl
  · rw [show decide (b.toInt ≤ a.toInt ∧ a.toInt ≤ c.toInt) = true by simp; omega]; rfl
theorem in_isN {n : Nat} (hn : n < 1000) (h : Int32) : decide ((0 : Int32) ≤ h ∧ h ≤ nI n - 1) = isN n h := by
  unfold isN
  simp only [fx_le, fx_pred hn, show (0 : Int32).toInt = 0 from rfl]
  by_cases q : 0 ≤ h.toInt ∧ h.toInt < n
  · rw [decide_eq_true (p := 0 ≤ h.toInt ∧ h.toInt ≤ (n : Int) - 1) (by omega), decide_eq_true q]
  · rw [decide_eq_false (p := 0 ≤ h.toInt ∧ h.toInt ≤ (n : Int) - 1) (by omega), decide_eq_false q]
theorem in_isN' {n : Nat} {m : Int32} (hm : m.toInt = (n : Int) - 1) (h : Int32) : decide ((0 : Int32) ≤ h ∧ h ≤ m) = isN n h := by
  unfold isN
  simp only [fx_le, hm, show (0 : Int32).toInt = 0 from rfl]
  by_cases q : 0 ≤ h.toInt ∧ h.toInt < n
  · rw [decide_eq_true (p := 0 ≤ h.toInt ∧ h.toInt ≤ (n : Int) - 1) (by omega), decide_eq_true q]
  · rw [decide_eq_false (p := 0 ≤ h.toInt ∧ h.toInt ≤ (n : Int) - 1) (by omega), decide_eq_false q]
theorem sM_isHouse (hO : mO tr ty hn M) (hT : mT nh np hall er tp tax warm M) (hb : nh < 1000) (h : Int32) : zRuns (d + 1) mM_isHouse [.ref 168, .int h] M N S (some (.int (bI (isN nh h))), M, N, S) := by
  obtain ⟨lt, a, b, c, e, u, hO⟩ := hO
  obtain ⟨⟨f0, h0, h0'⟩, -⟩ := hT
  refine zenter (n := 0) kM_isHouse rfl rfl ?_
  repeat' (first | (refine zstep uM_isHouse [] (by decide) rfl ?_; simp only [hO, h0, h0', zix0_2, in_isN hb, bM_isHouse_0, e_const, e_lconst, e_iload, e_aload, e_lload, e_istore, e_astore, e_lstore, e_iinc, e_bin, e_un, e_div, e_mm, e_ladd, e_lcmp, e_dupi, e_dupr, e_dup2, e_popi, e_goto, e_if, e_icmp, e_sw, e_ret, e_zret0, e_zret1, e_zretb, bI_0, bI_1, bI_t, bI_f, i32_10, i32_01, e_lret, e_vret, e_getf, e_putf, e_iald, e_bald, e_aald, e_alen, e_iast, e_bast, e_aast, e_acopy, e_callS, e_callV, e_callI, e_obj, zg0, zg1, zg2, zg3, zg4, zg5, zg6, zg7, zg8, zg9, zg10, zg11, zg12, zg13, zg14, zg15, zg16, zg17, zg18, zg19, zg20, zg21, zg22, zg23, zt0, zt1, zt2, zt3, zt4, zt5, zt6, zt7, zt8, zt9, zt10, zt11, zt12, zt13, zt14, zt15, zt16, zt17, zt18, zt19, zt20, zt21, zt22, zt23, zsi, zsr, zsl, zsu, zs1, zs2, zs3, zs4, zs5, zs6, zs7, zs8, zs9, zs10, zs11, zs12, zs13, zp0, zp1, zp2, zp3, zp4, zp5, zp6, zm0, zm1, zm2, zm3, zm4, zty0, zty2, zty3, zty10, zty11, zkin_self, ztab_self, zup_app, bx_uu, Option.map_some, decide_eq_true_eq, if_true, if_false, ite_true, ite_false, true_and, and_true, Option.toList_some, Option.toList_none, List.cons_append, List.nil_append, reduceIte, List.length_cons, List.length_nil, Nat.reduceAdd, Nat.reduceLT, Nat.reduceEqDiff, Nat.reduceLeDiff, and_self, not_true_eq_false, not_false_eq_true, Int32.reduceSub, Int32.reduceAdd, Int32.reduceToNatClampNeg, Int32.reduceLE, Int32.reduceLT]) | (exact True.intro) | (refine ite_in ?_ ?_ <;> intro _) | (refine ⟨_, sM_in _ _ _, ?_⟩; simp only [hO, h0, h0', zix0_2, in_isN hb, e_const, e_lconst, e_iload, e_aload, e_lload, e_istore, e_astore, e_lstore, e_iinc, e_bin, e_un, e_div, e_mm, e_ladd, e_lcmp, e_dupi, e_dupr, e_dup2, e_popi, e_goto, e_if, e_icmp, e_sw, e_ret, e_zret0, e_zret1, e_zretb, bI_0, bI_1, bI_t, bI_f, i32_10, i32_01, e_lret, e_vret, e_getf, e_putf, e_iald, e_bald, e_aald, e_alen, e_iast, e_bast, e_aast, e_acopy, e_callS, e_callV, e_callI, e_obj, zg0, zg1, zg2, zg3, zg4, zg5, zg6, zg7, zg8, zg9, zg10, zg11, zg12, zg13, zg14, zg15, zg16, zg17, zg18, zg19, zg20, zg21, zg22, zg23, zt0, zt1, zt2, zt3, zt4, zt5, zt6, zt7, zt8, zt9, zt10, zt11, zt12, zt13, zt14, zt15, zt16, zt17, zt18, zt19, zt20, zt21, zt22, zt23, zsi, zsr, zsl, zsu, zs1, zs2, zs3, zs4, zs5, zs6, zs7, zs8, zs9, zs10, zs11, zs12, zs13, zp0, zp1, zp2, zp3, zp4, zp5, zp6, zm0, zm1, zm2, zm3, zm4, zty0, zty2, zty3, zty10, zty11, zkin_self, ztab_self, zup_app, bx_uu, Option.map_some, decide_eq_true_eq, if_true, if_false, ite_true, ite_false, true_and, and_true, Option.toList_some, Option.toList_none, List.cons_append, List.nil_append, reduceIte, List.length_cons, List.length_nil, Nat.reduceAdd, Nat.reduceLT, Nat.reduceEqDiff, Nat.reduceLeDiff, and_self, not_true_eq_false, not_false_eq_true, Int32.reduceSub, Int32.reduceAdd, Int32.reduceToNatClampNeg, Int32.reduceLE, Int32.reduceLT]) | (refine zsw_in ?_ ?_ <;> (first | (intro e0; subst e0) | intro _)) | (refine zsw_out ?_))
theorem sM_isPerson (hO : mO tr ty hn M) (hT : mT nh np hall er tp tax warm M) (hb : np < 1000) (h : Int32) : zRuns (d + 1) mM_isPerson [.ref 168, .int h] M N S (some (.int (bI (isN np h))), M, N, S) := by
  obtain ⟨lt, a, b, c, e, u, hO⟩ := hO
  obtain ⟨-, -, ⟨f0, h0, h0'⟩, -⟩ := hT
  refine zenter (n := 0) kM_isPerson rfl rfl ?_
  repeat' (first | (refine zstep uM_isPerson [] (by decide) rfl ?_; simp only [hO, h0, h0', zix0_2, in_isN hb, bM_isPerson_0, e_const, e_lconst, e_iload, e_aload, e_lload, e_istore, e_astore, e_lstore, e_iinc, e_bin, e_un, e_div, e_mm, e_ladd, e_lcmp, e_dupi, e_dupr, e_dup2, e_popi, e_goto, e_if, e_icmp, e_sw, e_ret, e_zret0, e_zret1, e_zretb, bI_0, bI_1, bI_t, bI_f, i32_10, i32_01, e_lret, e_vret, e_getf, e_putf, e_iald, e_bald, e_aald, e_alen, e_iast, e_bast, e_aast, e_acopy, e_callS, e_callV, e_callI, e_obj, zg0, zg1, zg2, zg3, zg4, zg5, zg6, zg7, zg8, zg9, zg10, zg11, zg12, zg13, zg14, zg15, zg16, zg17, zg18, zg19, zg20, zg21, zg22, zg23, zt0, zt1, zt2, zt3, zt4, zt5, zt6, zt7, zt8, zt9, zt10, zt11, zt12, zt13, zt14, zt15, zt16, zt17, zt18, zt19, zt20, zt21, zt22, zt23, zsi, zsr, zsl, zsu, zs1, zs2, zs3, zs4, zs5, zs6, zs7, zs8, zs9, zs10, zs11, zs12, zs13, zp0, zp1, zp2, zp3, zp4, zp5, zp6, zm0, zm1, zm2, zm3, zm4, zty0, zty2, zty3, zty10, zty11, zkin_self, ztab_self, zup_app, bx_uu, Option.map_some, decide_eq_true_eq, if_true, if_false, ite_true, ite_false, true_and, and_true, Option.toList_some, Option.toList_none, List.cons_append, List.nil_append, reduceIte, List.length_cons, List.length_nil, Nat.reduceAdd, Nat.reduceLT, Nat.reduceEqDiff, Nat.reduceLeDiff, and_self, not_true_eq_false, not_false_eq_true, Int32.reduceSub, Int32.reduceAdd, Int32.reduceToNatClampNeg, Int32.reduceLE, Int32.reduceLT]) | (exact True.intro) | (refine ite_in ?_ ?_ <;> intro _) | (refine ⟨_, sM_in _ _ _, ?_⟩; simp only [hO, h0, h0', zix0_2, in_isN hb, e_const, e_lconst, e_iload, e_aload, e_lload, e_istore, e_astore, e_lstore, e_iinc, e_bin, e_un, e_div, e_mm, e_ladd, e_lcmp, e_dupi, e_dupr, e_dup2, e_popi, e_goto, e_if, e_icmp, e_sw, e_ret, e_zret0, e_zret1, e_zretb, bI_0, bI_1, bI_t, bI_f, i32_10, i32_01, e_lret, e_vret, e_getf, e_putf, e_iald, e_bald, e_aald, e_alen, e_iast, e_bast, e_aast, e_acopy, e_callS, e_callV, e_callI, e_obj, zg0, zg1, zg2, zg3, zg4, zg5, zg6, zg7, zg8, zg9, zg10, zg11, zg12, zg13, zg14, zg15, zg16, zg17, zg18, zg19, zg20, zg21, zg22, zg23, zt0, zt1, zt2, zt3, zt4, zt5, zt6, zt7, zt8, zt9, zt10, zt11, zt12, zt13, zt14, zt15, zt16, zt17, zt18, zt19, zt20, zt21, zt22, zt23, zsi, zsr, zsl, zsu, zs1, zs2, zs3, zs4, zs5, zs6, zs7, zs8, zs9, zs10, zs11, zs12, zs13, zp0, zp1, zp2, zp3, zp4, zp5, zp6, zm0, zm1, zm2, zm3, zm4, zty0, zty2, zty3, zty10, zty11, zkin_self, ztab_self, zup_app, bx_uu, Option.map_some, decide_eq_true_eq, if_true, if_false, ite_true, ite_false, true_and, and_true, Option.toList_some, Option.toList_none, List.cons_append, List.nil_append, reduceIte, List.length_cons, List.length_nil, Nat.reduceAdd, Nat.reduceLT, Nat.reduceEqDiff, Nat.reduceLeDiff, and_self, not_true_eq_false, not_false_eq_true, Int32.reduceSub, Int32.reduceAdd, Int32.reduceToNatClampNeg, Int32.reduceLE, Int32.reduceLT]) | (refine zsw_in ?_ ?_ <;> (first | (intro e0; subst e0) | intro _)) | (refine zsw_out ?_))
end ES
