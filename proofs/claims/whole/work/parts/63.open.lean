theorem split_and (x y : Int32) : x = (x &&& y) ||| (x &&& (y ^^^ (-1))) := by
  apply Int32.toBitVec_inj.mp
  rw [Int32.toBitVec_or, Int32.toBitVec_and, Int32.toBitVec_and, Int32.toBitVec_xor]
  rw [show (-1 : Int32).toBitVec = BitVec.allOnes 32 from rfl]
  ext i hi
  simp only [BitVec.getElem_or, BitVec.getElem_and, BitVec.getElem_xor, BitVec.getElem_allOnes]
  cases x.toBitVec[i] <;> cases y.toBitVec[i] <;> rfl
theorem sub_and {i s : Nat} (hi : i < 512) (hs : s < 512) (h : nI i &&& (nI s ^^^ (-1)) = 0) : i &&& s = i := by
  have e := split_and (nI i) (nI s)
  rw [h] at e
  have e2 : nI i = nI i &&& nI s := by
    rw [i32_or0] at e
    exact e
  have l : i &&& s < 2 ^ 31 := Nat.lt_of_le_of_lt Nat.and_le_left (by omega)
  have e3 : nI i &&& nI s = nI (i &&& s) := by
    apply Int32.toBitVec_inj.mp
    apply BitVec.eq_of_toNat_eq
    rw [Int32.toBitVec_and, BitVec.toNat_and]
    show (BitVec.ofNat 32 i).toNat &&& (BitVec.ofNat 32 s).toNat = (BitVec.ofNat 32 (i &&& s)).toNat
    rw [BitVec.toNat_ofNat, BitVec.toNat_ofNat, BitVec.toNat_ofNat, Nat.mod_eq_of_lt (show i < 2 ^ 32 by omega), Nat.mod_eq_of_lt (show s < 2 ^ 32 by omega), Nat.mod_eq_of_lt (show i &&& s < 2 ^ 32 by omega)]
  rw [e3] at e2
  exact ((nI_eq (by omega) l).mp e2).symm
