theorem uN_of (z : Int64) : z = lN (uN z) := wb_inj (by rw [wb_tb]; show z.toBitVec = BitVec.ofNat 64 z.toBitVec.toNat; simp)
theorem uN_lN {n : Nat} (h : n < 2 ^ 64) : uN (lN n) = n := wb_tn h
theorem shr_lN (z : Int64) (k : Nat) (hk : k < 64) : (z.toUInt64 >>> ((nI k).toInt64.toUInt64 &&& Int64.toUInt64 63)).toInt64 = lN (uN z / 2 ^ k) := by
  apply uN_inj
  rw [uN_sk z hk, uN_lN (Nat.lt_of_le_of_lt (Nat.div_le_self _ _) (uN_lt z))]
theorem and1_lN (z : Int64) : z &&& 1 = lN (uN z % 2) := by
  have h := wb_a1 (n := uN z) (uN_lt z)
  rw [← uN_of z] at h
  exact h
theorem rem_lN {a b : Nat} (ha : a < 2 ^ 63) (h0 : 0 < b) (hb : b < 2 ^ 63) : lN a - lN a / lN b * lN b = lN (a % b) := pk_lRem ha h0 hb
theorem sh1 (z : Int64) : (z.toUInt64 >>> ((1 : Int32).toInt64.toUInt64 &&& Int64.toUInt64 63)).toInt64 = lN (uN z / 2) := shr_lN z 1 (by omega)
theorem sh8 (z : Int64) : (z.toUInt64 >>> ((8 : Int32).toInt64.toUInt64 &&& Int64.toUInt64 63)).toInt64 = lN (uN z / 256) := shr_lN z 8 (by omega)
theorem sh24 (z : Int64) : (z.toUInt64 >>> ((24 : Int32).toInt64.toUInt64 &&& Int64.toUInt64 63)).toInt64 = lN (uN z / 16777216) := shr_lN z 24 (by omega)
theorem sh40 (z : Int64) : (z.toUInt64 >>> ((40 : Int32).toInt64.toUInt64 &&& Int64.toUInt64 63)).toInt64 = lN (uN z / 1099511627776) := shr_lN z 40 (by omega)
theorem um_dbl (z : Int64) (d : Nat) (h0 : 0 < d) (hd : d < 2 ^ 31) : 2 * (lN (uN z / 2) - lN (uN z / 2) / lN d * lN d) + (z &&& 1) = lN (2 * (uN z / 2 % d) + uN z % 2) := by
  have h := uN_lt z
  rw [rem_lN (by omega) h0 (by omega), and1_lN, show (2 : Int64) = lN 2 from rfl, lN_mul, lN_add]
theorem fct1 (z : Int64) : ((2 * ((z.toUInt64 >>> ((1 : Int32).toInt64.toUInt64 &&& Int64.toUInt64 63)).toInt64 - (z.toUInt64 >>> ((1 : Int32).toInt64.toUInt64 &&& Int64.toUInt64 63)).toInt64 / 50 * 50)) + (z &&& 1)).toInt32 = nI (uN z % 100) := by
  have e := um_dbl z 50 (by omega) (by omega)
  rw [sh1, show (50 : Int64) = lN 50 from rfl, e, lN_i]
  congr 1
  omega
theorem fct2 (z : Int64) : ((z.toUInt64 >>> ((8 : Int32).toInt64.toUInt64 &&& Int64.toUInt64 63)).toInt64 - (z.toUInt64 >>> ((8 : Int32).toInt64.toUInt64 &&& Int64.toUInt64 63)).toInt64 / 1000 * 1000).toInt32 = nI (uN z / 256 % 1000) := by
  have h := uN_lt z
  rw [sh8, show (1000 : Int64) = lN 1000 from rfl, rem_lN (by omega) (by omega) (by omega), lN_i]
theorem fct3 (z : Int64) : ((z.toUInt64 >>> ((24 : Int32).toInt64.toUInt64 &&& Int64.toUInt64 63)).toInt64 - (z.toUInt64 >>> ((24 : Int32).toInt64.toUInt64 &&& Int64.toUInt64 63)).toInt64 / 24 * 24).toInt32 = nI (uN z / 16777216 % 24) := by
  have h := uN_lt z
  rw [sh24, show (24 : Int64) = lN 24 from rfl, rem_lN (by omega) (by omega) (by omega), lN_i]
theorem fct4 (z : Int64) : ((z.toUInt64 >>> ((40 : Int32).toInt64.toUInt64 &&& Int64.toUInt64 63)).toInt64 - (z.toUInt64 >>> ((40 : Int32).toInt64.toUInt64 &&& Int64.toUInt64 63)).toInt64 / 2 * 2).toInt32 = nI (uN z / 1099511627776 % 2) := by
  have h := uN_lt z
  rw [sh40, show (2 : Int64) = lN 2 from rfl, rem_lN (by omega) (by omega) (by omega), lN_i]

