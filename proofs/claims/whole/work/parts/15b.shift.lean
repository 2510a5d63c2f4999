theorem sh31 {b : Int} (hb : 0 ≤ b) (hb2 : b < 32) : ((iI b &&& 31).toBitVec.smod (32 : BitVec 32)).toNat = b.toNat :=
  fin1 (P := fun b => b < 32 → ((iI b &&& 31).toBitVec.smod (32 : BitVec 32)).toNat = b.toNat) (by decide +kernel) hb (by omega) hb2
theorem bshl_eq {a b : Int} (ha : 0 ≤ a) (hb : 0 ≤ b) (hb2 : b < 32) (ha2 : a < 2147483648) (h : a * 2 ^ b.toNat < 2147483648) : bshl a b = a * 2 ^ b.toNat := by
  have h0 : 0 ≤ a * 2 ^ b.toNat := Int.mul_nonneg ha (Int.le_of_lt (Int.pow_pos (by decide)))
  show ((iI a).toBitVec <<< ((iI b &&& 31).toBitVec.smod (32 : BitVec 32))).toInt = _
  rw [BitVec.shiftLeft_eq', BitVec.toInt_shiftLeft, sh31 hb hb2]
  have e : (iI a).toBitVec.toNat = a.toNat := by
    show (BitVec.ofInt 32 a).toNat = _
    rw [BitVec.toNat_ofInt, Int.emod_eq_of_lt ha (by simp; omega)]
  rw [e]
  have e2 : ((a.toNat <<< b.toNat : Nat) : Int) = a * 2 ^ b.toNat := by
    rw [Nat.shiftLeft_eq, Int.natCast_mul, show ((a.toNat : Nat) : Int) = a by omega]
    simp
  rw [e2, Int.bmod_eq_of_le (by simp; omega) (by simp; omega)]
theorem bshr_eq {a b : Int} (ha : InR a) (hb : 0 ≤ b) (hb2 : b < 32) : bshr a b = a / 2 ^ b.toNat := by
  show ((iI a).toBitVec.sshiftRight' ((iI b &&& 31).toBitVec.smod (32 : BitVec 32))).toInt = _
  rw [BitVec.toInt_sshiftRight', sh31 hb hb2, Int.shiftRight_eq_div_pow]
  have e : (iI a).toBitVec.toInt = a := iI_to ha
  rw [e]
  simp
theorem band_mask {a : Int} (ha : 0 ≤ a) (ha2 : a ≤ 2147483647) (k : Nat) (hk : k ≤ 30) (M : Int) (hM : M = 2 ^ k - 1) (hMn : (iI M).toBitVec.toNat = 2 ^ k - 1) : band a M = a % 2 ^ k := by
  show ((iI a).toBitVec &&& (iI M).toBitVec).toInt = _
  rw [BitVec.toInt_and]
  have e1 : (iI a).toBitVec.toNat = a.toNat := by
    show (BitVec.ofInt 32 a).toNat = _
    rw [BitVec.toNat_ofInt, Int.emod_eq_of_lt ha (by simp; omega)]
  have e3 : (a.toNat &&& (2 ^ k - 1)) = a.toNat % 2 ^ k := Nat.and_two_pow_sub_one_eq_mod _ _
  rw [e1, hMn, e3]
  have hp : (0 : Int) < 2 ^ k := Int.pow_pos (by decide)
  have e5 : ((a.toNat % 2 ^ k : Nat) : Int) = a % 2 ^ k := by
    rw [Int.natCast_emod, show ((a.toNat : Nat) : Int) = a by omega]
    simp
  have l1 := Int.emod_nonneg a (Int.ne_of_gt hp)
  have l2 : a % 2 ^ k ≤ a := by
    have d1 := Int.mul_ediv_add_emod a (2 ^ k)
    have d2 := Int.mul_nonneg (Int.le_of_lt hp) (Int.ediv_nonneg ha (Int.le_of_lt hp))
    omega
  rw [e5, Int.bmod_eq_of_le (by simp; omega) (by simp; omega)]
theorem band63 {a : Int} (ha : 0 ≤ a) (ha2 : a ≤ 2147483647) : band a 63 = a % 64 := band_mask ha ha2 6 (by decide) 63 (by decide) rfl
theorem band15 {a : Int} (ha : 0 ≤ a) (ha2 : a ≤ 2147483647) : band a 15 = a % 16 := band_mask ha ha2 4 (by decide) 15 (by decide) rfl
