theorem fKnow_lo {v : Nat → Int32} {kn k : Nat} (h : k < 22) : fKnow v kn k = v k := by
  unfold fKnow
  rw [if_neg (by omega)]
  unfold fPut
  by_cases c : kn = 10
  · rw [if_pos c, if_pos c, if_neg (by omega)]
    unfold fLose
    rw [if_neg (by omega)]
  · rw [if_neg c, if_neg c, if_neg (by omega)]
theorem fKnow_hi {v : Nat → Int32} {kn k : Nat} (hk : kn ≤ 10) (h : 243 ≤ k) : fKnow v kn k = v k := by
  unfold fKnow
  rw [if_neg (by omega)]
  unfold fPut
  by_cases c : kn = 10
  · rw [if_pos c, if_pos c, if_neg (by omega)]
    unfold fLose
    rw [if_neg (by omega)]
  · rw [if_neg c, if_neg c, if_neg (by omega)]
theorem fKnow_22 (v : Nat → Int32) (kn : Nat) : fKnow v kn 22 = nI ((if kn = 10 then 9 else kn) + 1) := by
  unfold fKnow
  rw [if_pos rfl]
theorem okN_v {nh np : Nat} {v w : Nat → Int32} (h : okN nh np v) (hp : np ≤ 6) (e : ∀ k, k < 22 → v k = w k) : okN nh np w := by
  obtain ⟨h1, h2, h3, h4, h5⟩ := h
  refine ⟨fun p hp2 => ?_, fun p hp2 => ?_, fun p hp2 => ?_, ?_, ?_⟩
  · rw [← e _ (by omega)]; exact h1 p hp2
  · rw [← e _ (by omega)]; exact h2 p hp2
  · rw [← e _ (by omega)]; exact h3 p hp2
  · rw [← e _ (by omega)]; exact h4
  · rw [← e _ (by omega)]; exact h5
theorem okL_know {nh np kn : Nat} {v : Nat → Int32} (h : okL nh np v) (hp : np ≤ 6) (hk : v 22 = nI kn) (hk10 : kn ≤ 10) : okL nh np (fKnow v kn) := by
  obtain ⟨h1, kn', h2, h3, h4⟩ := h
  have : kn' = kn := (nI_eq (by omega) (by omega)).mp (h3.symm.trans hk)
  subst this
  refine ⟨okN_v h1 hp (fun k hk => (fKnow_lo hk).symm), (if kn' = 10 then 9 else kn') + 1, by split <;> omega, fKnow_22 v kn', fun i hi => ?_⟩
  by_cases c : kn' = 10
  · rw [if_pos c] at hi
    by_cases ci : i = 9
    · refine okN_v h1 hp (fun k hk => ?_)
      show v k = fKnow v kn' (23 + 22 * i + k)
      unfold fKnow
      rw [if_neg (by omega), if_pos c, if_pos c]
      unfold fPut
      rw [if_pos (by omega), show 23 + 22 * i + k - (23 + 22 * 9) = k by omega]
      unfold fLose
      rw [if_neg (by omega)]
    · refine okN_v (h4 (i + 1) (by omega)) hp (fun k hk => ?_)
      show v (23 + 22 * (i + 1) + k) = fKnow v kn' (23 + 22 * i + k)
      unfold fKnow
      rw [if_neg (by omega), if_pos c, if_pos c]
      unfold fPut
      rw [if_neg (by omega)]
      unfold fLose
      rw [if_pos (by omega)]
      congr 1
      omega
  · rw [if_neg c] at hi
    by_cases ci : i = kn'
    · refine okN_v h1 hp (fun k hk => ?_)
      show v k = fKnow v kn' (23 + 22 * i + k)
      unfold fKnow
      rw [if_neg (by omega), if_neg c, if_neg c]
      unfold fPut
      rw [if_pos (by omega)]
      congr 1
      omega
    · refine okN_v (h4 i (by omega)) hp (fun k hk => ?_)
      show v (23 + 22 * i + k) = fKnow v kn' (23 + 22 * i + k)
      unfold fKnow
      rw [if_neg (by omega), if_neg c, if_neg c]
      unfold fPut
      rw [if_neg (by omega)]
theorem okL_set {nh np : Nat} {v w : Nat → Int32} (h : okL nh np v) (hw : okN nh np w) (e : ∀ k, 22 ≤ k → w k = v k) (hp : np ≤ 6) : okL nh np w := by
  obtain ⟨h1, kn, h2, h3, h4⟩ := h
  exact ⟨hw, kn, h2, (e 22 (by omega)).trans h3, fun i hi => okN_v (h4 i hi) hp (fun k hk => (e _ (by omega)).symm)⟩
theorem okL_v {nh np : Nat} {v w : Nat → Int32} (h : okL nh np v) (hp : np ≤ 6) (e : ∀ k, k < 243 → v k = w k) : okL nh np w := by
  obtain ⟨h1, kn, h2, h3, h4⟩ := h
  exact ⟨okN_v h1 hp (fun k hk => e k (by omega)), kn, h2, (e 22 (by omega)).symm.trans h3, fun i hi => okN_v (h4 i hi) hp (fun k hk => e _ (by omega))⟩
/-- the state changed, nothing else -/
theorem gL_set {np : Nat} {kn : Nat} {v w : Nat → Int32} {M M' : zHp} (h : gL np 14 v kn M) (hw : gN np 15 w M') (fr : ∀ k, ¬ (15 ≤ k ∧ k ≤ 18) → M' k = M k) (e : ∀ k, 22 ≤ k → w k = v k) : gL np 14 w kn M' := by
  obtain ⟨h0, h1, h2, π, h3, h4, h5, h6, h7⟩ := h
  refine ⟨h0, (fr 14 (by omega)).trans h1, hw, π, (fr 19 (by omega)).trans h3, h4, h5, fun i hi => ?_, fun i hi => ?_⟩
  · obtain ⟨u, hu⟩ := h6 i hi
    exact ⟨u, gN_fr hu (fun k a b => fr k (by omega))⟩
  · exact gN_v (gN_fr (h7 i hi) (fun k a b => fr k (by omega))) (fun k hk => (e _ (by omega)).symm)
theorem gJ_v {np : Nat} {a o : Nat} {kp : Bool} {v w : Nat → Int32} {M M' : zHp} (h : gJ np a o kp v M) (fr : ∀ k, a ≤ k → k ≤ a + 45 → M' k = M k) (e : ∀ j, j < 243 → w (o + j) = v (o + j)) : gJ np a o kp w M' := by
  obtain ⟨u, kn, h1, h2⟩ := h
  refine ⟨u, kn, gL_fr h1 fr, fun hk => ?_⟩
  obtain ⟨h3, h4⟩ := h2 hk
  exact ⟨fun j hj => (h3 j hj).trans (e j hj).symm, (e 22 (by omega)).trans h4⟩
/-- Integer.bitCount's own words -/
def fBC0 (x : Int32) : Int32 := x - ((x.toUInt32 >>> ((1 : Int32).toUInt32 &&& Int32.toUInt32 31)).toInt32 &&& 1431655765)
def fBC1 (x : Int32) : Int32 := (x &&& 858993459) + ((x.toUInt32 >>> ((2 : Int32).toUInt32 &&& Int32.toUInt32 31)).toInt32 &&& 858993459)
def fBC2 (x : Int32) : Int32 := (x + (x.toUInt32 >>> ((4 : Int32).toUInt32 &&& Int32.toUInt32 31)).toInt32) &&& 252645135
def fBC3 (x : Int32) : Int32 := x + (x.toUInt32 >>> ((8 : Int32).toUInt32 &&& Int32.toUInt32 31)).toInt32
def fBC4 (x : Int32) : Int32 := x + (x.toUInt32 >>> ((16 : Int32).toUInt32 &&& Int32.toUInt32 31)).toInt32
def fBC (x : Int32) : Int32 := fBC4 (fBC3 (fBC2 (fBC1 (fBC0 x)))) &&& 63
theorem sJ_bitCount {M : zHp} {N S d : Nat} (x : Int32) : zRuns d mJ_bitCount [.int x] M N S (some (.int (fBC x)), M, N, S) := by
  refine zenter (n := 0) kJ_bitCount rfl rfl ?_
  repeat' (first | (refine zstep uJ_bitCount [] (by decide) rfl ?_; simp only [bJ_bitCount_0, e_const, e_lconst, e_iload, e_aload, e_lload, e_istore, e_astore, e_lstore, e_iinc, e_bin, e_un, e_div, e_mm, e_ladd, e_lcmp, e_dupi, e_dupr, e_dup2, e_popi, e_goto, e_if, e_icmp, e_sw, e_ret, e_zret0, e_zret1, e_zretb, bI_0, bI_1, bI_t, bI_f, i32_10, i32_01, e_lret, e_vret, e_getf, e_putf, e_iald, e_bald, e_aald, e_alen, e_iast, e_bast, e_aast, e_acopy, e_callS, e_callV, e_callI, e_obj, zg0, zg1, zg2, zg3, zg4, zg5, zg6, zg7, zg8, zg9, zg10, zg11, zg12, zg13, zg14, zg15, zg16, zg17, zg18, zg19, zg20, zg21, zg22, zg23, zt0, zt1, zt2, zt3, zt4, zt5, zt6, zt7, zt8, zt9, zt10, zt11, zt12, zt13, zt14, zt15, zt16, zt17, zt18, zt19, zt20, zt21, zt22, zt23, zsi, zsr, zsl, zsu, zs1, zs2, zs3, zs4, zs5, zs6, zs7, zs8, zs9, zs10, zs11, zs12, zs13, zp0, zp1, zp2, zp3, zp4, zp5, zp6, zm0, zm1, zm2, zm3, zm4, zty0, zty2, zty3, zty10, zty11, zkin_self, ztab_self, zup_app, bx_uu, Option.map_some, decide_eq_true_eq, if_true, if_false, ite_true, ite_false, true_and, and_true, Option.toList_some, Option.toList_none, List.cons_append, List.nil_append, reduceIte, List.length_cons, List.length_nil, Nat.reduceAdd, Nat.reduceLT, Nat.reduceEqDiff, Nat.reduceLeDiff, and_self, not_true_eq_false, not_false_eq_true, Int32.reduceSub, Int32.reduceAdd, Int32.reduceToNatClampNeg, Int32.reduceLE, Int32.reduceLT]) | (exact True.intro) | (refine ite_in ?_ ?_ <;> intro _) | (refine zsw_in ?_ ?_ <;> (first | (intro e0; subst e0) | intro _)) | (refine zsw_out ?_))
  all_goals rfl
theorem fBC_cnt {s : Nat} (h : s < 512) : fBC (nI s) = fCnt (nI s) 9 := by
  have key : ∀ s : Fin 512, fBC (nI s) = fCnt (nI s) 9 := by decide +kernel
  exact key ⟨s, h⟩
