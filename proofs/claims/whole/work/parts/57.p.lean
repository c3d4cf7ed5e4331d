theorem sh_8 : ((8 : Int32).toInt64 &&& 63) = 8 := by decide
theorem i64_ni {a : Nat} (ha : a < 256) : (ni a).toInt64.toBitVec.toNat = a := by
  have h1 : (ni a).toInt64 = Int64.ofNat a := by
    apply Int64.toInt.inj
    rw [Int32.toInt_toInt64, ni, Int32.toInt_ofNat_of_lt (by omega), Int64.toInt_ofNat_of_lt (by omega)]
  rw [h1, Int64.toBitVec_ofNat']
  simp only [BitVec.toNat_ofNat]
  omega
theorem sh_step (v : Int64) (a b : Nat) (hv : v.toBitVec.toNat = a) (ha : a < 256) (hb : b < 256) : ((v <<< (8 : Int64)) ||| (ni b).toInt64).toBitVec.toNat = 256 * a + b := by
  rw [Int64.toBitVec_or, Int64.toBitVec_shiftLeft, BitVec.toNat_or, i64_ni hb]
  have e : ((8 : Int64).toBitVec.smod 64) = 8#64 := by decide
  rw [e, BitVec.shiftLeft_eq', BitVec.toNat_shiftLeft, hv]
  have e2 : (8#64).toNat = 8 := by decide
  rw [e2, Nat.mod_eq_of_lt (by rw [Nat.shiftLeft_eq]; omega)]
  rw [← Nat.shiftLeft_add_eq_or_of_lt (i := 8) hb, Nat.shiftLeft_eq]
  omega
theorem nb_2 (bag : List Int32) (a b : Nat) (ha : a < 256) (hb : b < 256) (h0 : bag.getD 0 0 = ni a) (h1 : bag.getD 1 0 = ni b) : (nb bag 2 0 0).toInt32 = ni (256 * a + b) := by
  simp only [nb, h0, h1, sh_8, Nat.zero_add]
  have e1 : (((0 : Int64) <<< (8 : Int64)) ||| (ni a).toInt64).toBitVec.toNat = a := by
    have := sh_step 0 0 a (by decide) (by omega) ha
    omega
  have e2 := sh_step _ a b e1 ha hb
  apply Int32.toBitVec.inj
  apply BitVec.eq_of_toNat_eq
  rw [Int64.toBitVec_toInt32, BitVec.signExtend_eq_setWidth_of_le _ (by omega), BitVec.toNat_setWidth, e2, ni, Int32.toBitVec_ofNat']
  simp only [BitVec.toNat_ofNat]
theorem sh_6 (x y : Int32) : ((x <<< ((6 : Int32) &&& 31)) ||| y) <<< ((6 : Int32) &&& 31) = (x <<< ((12 : Int32) &&& 31)) ||| (y <<< ((6 : Int32) &&& 31)) := by
  apply Int32.toBitVec.inj
  simp only [Int32.toBitVec_or, Int32.toBitVec_shiftLeft]
  have e1 : (((6 : Int32) &&& 31).toBitVec.smod 32) = 6#32 := by decide
  have e2 : (((12 : Int32) &&& 31).toBitVec.smod 32) = 12#32 := by decide
  rw [e1, e2]
  simp only [BitVec.shiftLeft_eq']
  have e3 : (6#32).toNat = 6 := by decide
  have e4 : (12#32).toNat = 12 := by decide
  rw [e3, e4, BitVec.shiftLeft_or_distrib, ← BitVec.shiftLeft_add]
theorem feed_s (w : BitVec 32) (j : Nat) (hj : j ≤ 24) : (w >>> j) &&& 255#32 = (w.sshiftRight j) &&& 255#32 := by
  ext i hi
  simp only [BitVec.getElem_and, BitVec.getElem_ushiftRight, BitVec.getElem_sshiftRight]
  by_cases h8 : i < 8
  · rw [dif_pos (by omega), BitVec.getLsbD_eq_getElem (by omega)]
  · have : (255#32)[i] = false := by
      rw [← BitVec.getLsbD_eq_getElem, BitVec.getLsbD_ofNat]
      have : Nat.testBit 255 i = false := by
        rw [show 255 = 2 ^ 8 - 1 from rfl, Nat.testBit_two_pow_sub_one]; simp; omega
      simp [this]
    simp only [this, Bool.and_false]
theorem feed_b (w : Int32) (k : Nat) (hk : k < 4) : ((w.toUInt32 >>> (((8 * ni k) : Int32).toUInt32 &&& Int32.toUInt32 31)).toInt32 &&& 255) = ((w >>> ((8 * ni k) &&& 31)) &&& 255) := by
  apply Int32.toBitVec.inj
  rw [Int32.toBitVec_and, Int32.toBitVec_and, Int32.toBitVec_shiftRight]
  show (w.toUInt32 >>> (((8 * ni k) : Int32).toUInt32 &&& Int32.toUInt32 31)).toBitVec &&& 255#32 = _ &&& 255#32
  rw [UInt32.toBitVec_shiftRight]
  show (w.toBitVec >>> _) &&& 255#32 = _ &&& 255#32
  match k, hk with
  | 0, _ => exact feed_s w.toBitVec 0 (by omega)
  | 1, _ => exact feed_s w.toBitVec 8 (by omega)
  | 2, _ => exact feed_s w.toBitVec 16 (by omega)
  | 3, _ => exact feed_s w.toBitVec 24 (by omega)
