/-! Integer.bitCount on numbers below 2^16, byte by byte -/
theorem and_split (a b m k : Nat) (hb : b < 256) (hk : k < 256) : (256 * a + b) &&& (256 * m + k) = 256 * (a &&& m) + (b &&& k) := by
  have hbk : b &&& k < 2 ^ 8 := Nat.and_lt_two_pow b (show k < 2 ^ 8 from hk)
  apply Nat.eq_of_testBit_eq
  intro i
  rw [Nat.testBit_and]
  have e1 := Nat.testBit_two_pow_mul_add a (show b < 2 ^ 8 from hb) i
  have e2 := Nat.testBit_two_pow_mul_add m (show k < 2 ^ 8 from hk) i
  have e3 := Nat.testBit_two_pow_mul_add (a &&& m) hbk i
  rw [show (256 : Nat) = 2 ^ 8 from rfl, e1, e2, e3]
  by_cases h : i < 8
  · rw [if_pos h, if_pos h, if_pos h, Nat.testBit_and]
  · rw [if_neg h, if_neg h, if_neg h, Nat.testBit_and]
def b_u (b : Nat) : Nat := b - (b / 2 &&& 85)
def b_v (b : Nat) : Nat := (b_u b &&& 51) + (b_u b / 4 &&& 51)
def b_w (b : Nat) : Nat := (b_v b + b_v b / 16) &&& 15
theorem b_facts : ∀ b : Fin 256, (b.val / 2 &&& 85) ≤ b.val ∧ b_u b.val < 256 ∧ b_v b.val ≤ 68 ∧ b_v b.val % 16 ≤ 4 ∧ b_w b.val = pc b.val 8 := by decide +kernel
theorem m_85 : ∀ c : Fin 256, (c.val &&& 5592405) = (c.val &&& 85) := by decide +kernel
theorem m_51 : ∀ c : Fin 256, (c.val &&& 3355443) = (c.val &&& 51) := by decide +kernel
theorem m_15 : ∀ c : Fin 256, (c.val &&& 986895) = (c.val &&& 15) := by decide +kernel
theorem l_85 : ∀ r : Fin 2, ∀ c : Fin 128, ((128 * r.val + c.val) &&& 85) = (c.val &&& 85) := by decide +kernel
theorem l_51 : ∀ r : Fin 4, ∀ c : Fin 64, ((64 * r.val + c.val) &&& 51) = (c.val &&& 51) := by decide +kernel
theorem bcN1 {B : Nat} (hB : B < 2 ^ 31) : bcS1 (nI B) = nI (B - (B / 2 &&& 1431655765)) := by
  unfold bcS1
  have e : ((nI B).toUInt32 >>> ((1 : Int32).toUInt32 &&& Int32.toUInt32 31)).toInt32 = nI (B / 2 ^ 1) := pk_ushrN (by omega) 1 1 (by decide)
  rw [e, show (1431655765 : Int32) = nI 1431655765 from rfl, nx_and, show B / 2 ^ 1 = B / 2 by rfl]
  have h : B / 2 &&& 1431655765 ≤ B / 2 := Nat.and_le_left
  rw [pk_sub (by omega)]
theorem bcN2 {B : Nat} (hB : B < 2 ^ 31) : bcS2 (nI B) = nI ((B &&& 858993459) + (B / 4 &&& 858993459)) := by
  unfold bcS2
  have e : ((nI B).toUInt32 >>> ((2 : Int32).toUInt32 &&& Int32.toUInt32 31)).toInt32 = nI (B / 2 ^ 2) := pk_ushrN (by omega) 2 2 (by decide)
  rw [e, show (858993459 : Int32) = nI 858993459 from rfl, nx_and, nx_and, nI_add]
theorem bcN3 {B : Nat} (hB : B < 2 ^ 31) : bcS3 (nI B) = nI ((B + B / 16) &&& 252645135) := by
  unfold bcS3
  have e : ((nI B).toUInt32 >>> ((4 : Int32).toUInt32 &&& Int32.toUInt32 31)).toInt32 = nI (B / 2 ^ 4) := pk_ushrN (by omega) 4 4 (by decide)
  rw [e, show (252645135 : Int32) = nI 252645135 from rfl, nI_add, nx_and]
theorem bcN4 {B : Nat} (hB : B < 2 ^ 31) : bcS4 (nI B) = nI (B + B / 256) := by
  unfold bcS4
  have e : ((nI B).toUInt32 >>> ((8 : Int32).toUInt32 &&& Int32.toUInt32 31)).toInt32 = nI (B / 2 ^ 8) := pk_ushrN (by omega) 8 8 (by decide)
  rw [e, nI_add]
theorem bcN5 {B : Nat} (hB : B < 2 ^ 31) : bcS5 (nI B) = nI (B + B / 65536) := by
  unfold bcS5
  have e : ((nI B).toUInt32 >>> ((16 : Int32).toUInt32 &&& Int32.toUInt32 31)).toInt32 = nI (B / 2 ^ 16) := pk_ushrN (by omega) 16 16 (by decide)
  rw [e, nI_add]
theorem bcN6 (B : Nat) : bcS6 (nI B) = nI (B % 64) := by
  unfold bcS6
  rw [show (63 : Int32) = nI (2 ^ 6 - 1) from rfl, nx_and, Nat.and_two_pow_sub_one_eq_mod]
theorem pc_lo {a b : Nat} (hb : b < 256) : ∀ k, k ≤ 8 → pc (256 * a + b) k = pc b k
  | 0, _ => rfl
  | k + 1, hk => by
    simp only [pc]
    have e := Nat.testBit_two_pow_mul_add a (show b < 2 ^ 8 from hb) k
    rw [if_pos (by omega)] at e
    rw [pc_lo hb k (by omega), show 256 * a + b = 2 ^ 8 * a + b from rfl, e]
theorem pc_hi {a b : Nat} (hb : b < 256) : ∀ k, pc (256 * a + b) (8 + k) = pc b 8 + pc a k
  | 0 => pc_lo hb 8 (Nat.le_refl _)
  | k + 1 => by
    show pc (256 * a + b) (8 + k) + (if (256 * a + b).testBit (8 + k) = true then 1 else 0) = pc b 8 + (pc a k + (if a.testBit k = true then 1 else 0))
    have e := Nat.testBit_two_pow_mul_add a (show b < 2 ^ 8 from hb) (8 + k)
    rw [if_neg (by omega), show 8 + k - 8 = k by omega] at e
    rw [pc_hi hb k, show 256 * a + b = 2 ^ 8 * a + b from rfl, e]
    omega
theorem bc_end {x y : Nat} (hx : x ≤ 8) (hy : y ≤ 8) : (256 * x + y + (256 * x + y) / 256 + (256 * x + y + (256 * x + y) / 256) / 65536) % 64 = y + x := by
  have e1 : (256 * x + y) / 256 = x := by omega
  have e2 : (256 * x + y + x) / 65536 = 0 := Nat.div_eq_of_lt (by omega)
  rw [e1, e2, Nat.add_zero]
  omega
theorem bc_pc {B : Nat} (hB : B < 65536) : fn_J_bitCount (nI B) = nI (pc B 16) := by
  obtain ⟨a, b, ha, hb, rfl⟩ : ∃ a b, a < 256 ∧ b < 256 ∧ B = 256 * a + b := ⟨B / 256, B % 256, by omega, by omega, by omega⟩
  obtain ⟨fa1, fa2, fa3, fa4, fa5⟩ := b_facts ⟨a, ha⟩
  obtain ⟨fb1, fb2, fb3, fb4, fb5⟩ := b_facts ⟨b, hb⟩
  simp only at fa1 fa2 fa3 fa4 fa5 fb1 fb2 fb3 fb4 fb5
  -- the first step
  have s1 : (256 * a + b) - ((256 * a + b) / 2 &&& 1431655765) = 256 * b_u a + b_u b := by
    have e1 : (256 * a + b) / 2 = 256 * (a / 2) + (128 * (a % 2) + b / 2) := by omega
    have e2 : ((a / 2) &&& 5592405) = ((a / 2) &&& 85) := m_85 ⟨a / 2, by omega⟩
    have e3 : ((128 * (a % 2) + b / 2) &&& 85) = (b / 2 &&& 85) := l_85 ⟨a % 2, by omega⟩ ⟨b / 2, by omega⟩
    rw [e1, show (1431655765 : Nat) = 256 * 5592405 + 85 from rfl, and_split _ _ _ _ (by omega) (by omega), e2, e3]
    unfold b_u
    omega
  have s2 : ((256 * b_u a + b_u b) &&& 858993459) + ((256 * b_u a + b_u b) / 4 &&& 858993459) = 256 * b_v a + b_v b := by
    unfold b_v
    generalize b_u a = ua at fa2 ⊢
    generalize b_u b = ub at fb2 ⊢
    have e1 : (256 * ua + ub) / 4 = 256 * (ua / 4) + (64 * (ua % 4) + ub / 4) := by omega
    have e2 : (ua &&& 3355443) = (ua &&& 51) := m_51 ⟨ua, fa2⟩
    have e3 : ((ua / 4) &&& 3355443) = ((ua / 4) &&& 51) := m_51 ⟨ua / 4, by omega⟩
    have e4 : ((64 * (ua % 4) + ub / 4) &&& 51) = (ub / 4 &&& 51) := l_51 ⟨ua % 4, by omega⟩ ⟨ub / 4, by omega⟩
    rw [e1, show (858993459 : Nat) = 256 * 3355443 + 51 from rfl, and_split _ _ _ _ (by omega) (by omega), and_split _ _ _ _ (by omega) (by omega), e2, e3, e4]
    omega
  have s3 : ((256 * b_v a + b_v b) + (256 * b_v a + b_v b) / 16) &&& 252645135 = 256 * b_w a + b_w b := by
    unfold b_w
    generalize b_v a = va at fa3 fa4 ⊢
    generalize b_v b = vb at fb3 fb4 ⊢
    have e1 : (256 * va + vb) + (256 * va + vb) / 16 = 256 * (va + va / 16) + (vb + 16 * (va % 16) + vb / 16) := by omega
    have e2 : ((va + va / 16) &&& 986895) = ((va + va / 16) &&& 15) := m_15 ⟨va + va / 16, by omega⟩
    have e3 : ((vb + 16 * (va % 16) + vb / 16) &&& 15) = ((vb + vb / 16) &&& 15) := by
      rw [show (15 : Nat) = 2 ^ 4 - 1 from rfl, Nat.and_two_pow_sub_one_eq_mod, Nat.and_two_pow_sub_one_eq_mod]
      omega
    rw [e1, show (252645135 : Nat) = 256 * 986895 + 15 from rfl, and_split _ _ _ _ (by omega) (by omega), e2, e3]
  have pa := pc_le a 8
  have pb := pc_le b 8
  unfold fn_J_bitCount
  rw [bcN1 (by omega), s1, bcN2 (by omega), s2, bcN3 (by omega), s3, fa5, fb5, bcN4 (by omega), bcN5 (by omega), bcN6, show (16 : Nat) = 8 + 8 from rfl, pc_hi hb 8, bc_end pa pb]

