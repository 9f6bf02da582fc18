theorem bv_nat (y : Int) : ((Int32.ofInt y).toBitVec.toNat : Int) = y % 4294967296 := by
  have e : (Int32.ofInt y).toBitVec = BitVec.ofInt 32 y := rfl
  rw [e, BitVec.toNat_ofInt]
  show ((y % 4294967296).toNat : Int) = _
  omega
theorem and_pow (y : Int) (k m : Nat) (hk : k ≤ 30) (hm : (Int32.ofInt m).toBitVec.toNat = 2 ^ k - 1) : aAnd y m = (y % 4294967296) % ((2 ^ k : Nat) : Int) := by
  unfold aAnd
  rw [pk_and _ k hm]
  have h1 : (Int32.ofInt y).toBitVec.toNat % 2 ^ k < 2 ^ k := Nat.mod_lt _ (Nat.pow_pos (by decide))
  have h2 : 2 ^ k ≤ 2 ^ 30 := Nat.pow_le_pow_right (by decide) hk
  rw [nI_toInt (by omega)]
  rw [← bv_nat y]
  exact Int.natCast_emod _ _
theorem and255 (y : Int) : aAnd y 255 = y % 256 := by
  have h : aAnd y ((255 : Nat) : Int) = _ := and_pow y 8 255 (by decide) (by decide)
  rw [show ((255 : Nat) : Int) = 255 from rfl] at h
  rw [h]
  show (y % 4294967296) % 256 = y % 256
  omega
theorem and31 (y : Int) : aAnd y 31 = y % 32 := by
  have h : aAnd y ((31 : Nat) : Int) = _ := and_pow y 5 31 (by decide) (by decide)
  rw [show ((31 : Nat) : Int) = 31 from rfl] at h
  rw [h]
  show (y % 4294967296) % 32 = y % 32
  omega
theorem i2b_val (a : Int) : aI2b a = a.bmod 256 := by
  unfold aI2b
  rw [Int8.toInt_toInt32, Int32.toInt_toInt8, Int32.toInt_ofInt]
  show Int.bmod (Int.bmod a 4294967296) 256 = _
  exact Int.bmod_bmod_of_dvd (by decide)
theorem nb_val (a : Int) : aNb a = a.bmod 256 := by
  have h : aNb a = aI2b a := by
    unfold aNb aI2b
    rw [vp_nar_byte]
  rw [h, i2b_val]
theorem ushr_val (a z : Int) (k : Nat) (hk : 1 ≤ k ∧ k ≤ 31) (hs : (((Int32.ofInt z).toUInt32 &&& Int32.toUInt32 31).toBitVec % 32).toNat = k) : aUshr a z = (a % 4294967296) / ((2 ^ k : Nat) : Int) := by
  unfold aUshr
  have h := pk_ushr (Int32.ofInt a) (Int32.ofInt z) k hs
  have hb : (Int32.ofInt a).toBitVec.toNat < 2 ^ 32 := (Int32.ofInt a).toBitVec.isLt
  have h3 : 2 ^ 1 ≤ 2 ^ k := Nat.pow_le_pow_right (by decide) hk.1
  have h4 : (Int32.ofInt a).toBitVec.toNat / 2 ^ k ≤ (Int32.ofInt a).toBitVec.toNat / 2 := Nat.div_le_div_left h3 (by decide)
  generalize hq : ((Int32.ofInt a).toUInt32 >>> ((Int32.ofInt z).toUInt32 &&& Int32.toUInt32 31)).toInt32 = q at h ⊢
  have e1 : q.toInt = (q.toBitVec.toNat : Int) := by
    show q.toBitVec.toInt = _
    rw [BitVec.toInt_eq_toNat_of_lt]
    omega
  rw [e1, h, ← bv_nat a]
  exact Int.natCast_ediv _ _
theorem ushr0_val {a : Int} (ha : InR a) : aUshr a 0 = a := by
  unfold aUshr
  have h := pk_ushr (Int32.ofInt a) (Int32.ofInt 0) 0 (by decide)
  have e : ((Int32.ofInt a).toUInt32 >>> ((Int32.ofInt 0).toUInt32 &&& Int32.toUInt32 31)).toInt32 = Int32.ofInt a := by
    apply Int32.toBitVec_inj.mp
    apply BitVec.eq_of_toNat_eq
    rw [h]
    simp
  rw [e, toI ha]
theorem shr_val {a : Int} (ha : InR a) (z : Int) (k : Nat) (hs : ((Int32.ofInt z &&& 31).toBitVec.smod 32).toNat = k) : aShr a z = a / ((2 ^ k : Nat) : Int) := by
  unfold aShr
  rw [pk_shr _ _ k hs, toI ha, Int.shiftRight_eq_div_pow]
/-- the bytes of a number, as both sides hold them -/
theorem byte_same {v : Int} (hv : InR v) (z : Int) (hz : z = 24 ∨ z = 16 ∨ z = 8 ∨ z = 0) : aAnd (aNb (aI2b (aUshr v z))) 255 = aAnd (aShr v z) 255 := by
  rw [and255, and255, nb_val, i2b_val]
  have hb : ∀ y : Int, (Int.bmod (Int.bmod y 256) 256) % 256 = y % 256 := by
    intro y
    rw [Int.bmod_bmod, Int.bmod_def]
    split <;> omega
  rw [hb]
  rcases hz with rfl | rfl | rfl | rfl
  · rw [ushr_val v 24 24 (by decide) (by decide), shr_val hv 24 24 (by decide)]
    show (v % 4294967296) / 16777216 % 256 = v / 16777216 % 256
    omega
  · rw [ushr_val v 16 16 (by decide) (by decide), shr_val hv 16 16 (by decide)]
    show (v % 4294967296) / 65536 % 256 = v / 65536 % 256
    omega
  · rw [ushr_val v 8 8 (by decide) (by decide), shr_val hv 8 8 (by decide)]
    show (v % 4294967296) / 256 % 256 = v / 256 % 256
    omega
  · rw [ushr0_val hv, shr_val hv 0 0 (by decide)]
    show v % 256 = v / 1 % 256
    omega
