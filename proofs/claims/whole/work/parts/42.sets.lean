/-! sets of parts as numbers below 2^16 -/
theorem one_shl : ∀ j, j < 16 → ((1 : Int32) <<< (nI j &&& 31)) = nI (2 ^ j) := by decide +kernel
theorem all_nI : ∀ n, n < 17 → fn_D_allBits n = nI (2 ^ n - 1) := by decide +kernel
theorem pw16 {j : Nat} (h : j < 16) : 2 ^ j < 65536 := Nat.pow_lt_pow_right (a := 2) (by decide) (show j < 16 from h)
theorem pw16' {n : Nat} (h : n ≤ 16) : 2 ^ n ≤ 65536 := Nat.pow_le_pow_right (n := 2) (by decide) h
theorem bt_nI {B i : Nat} (hi : i < 32) : bt (nI B) i = B.testBit i := by
  unfold bt
  show (BitVec.ofNat 32 B).getLsbD i = _
  rw [BitVec.getLsbD_ofNat]
  simp [hi]
/-- a bit is there -/
theorem and_bit {B j : Nat} (hB : B < 65536) (hj : j < 16) : (nI B &&& ((1 : Int32) <<< (nI j &&& 31))) = 0 ↔ B.testBit j = false := by
  rw [one_shl j hj, nx_and, ← nI_0]
  have hp := pw16 hj
  have hle : B &&& 2 ^ j ≤ 2 ^ j := Nat.and_le_right
  rw [nI_eq (by omega) (by omega)]
  constructor
  · intro h
    have := congrArg (fun x => x.testBit j) h
    simpa [Nat.testBit_and, Nat.testBit_two_pow] using this
  · intro h
    apply Nat.eq_of_testBit_eq
    intro i
    rw [Nat.testBit_and, Nat.testBit_two_pow, Nat.zero_testBit]
    by_cases e : j = i
    · subst e; rw [h]; rfl
    · simp [e]
theorem shr_bit {B j : Nat} (hB : B < 65536) (hj : j < 16) : ((nI B >>> (nI j &&& 31)) &&& 1) = nI (B / 2 ^ j % 2) := by
  have hs : ((nI j &&& 31).toBitVec.smod 32).toNat = j := s_l j (by omega)
  rw [pk_shrN (by omega) _ j hs]
  exact pk_andN (m := 1) (by have := Nat.div_le_self B (2 ^ j); omega) 1 (by decide)
theorem shr_is1 {B j : Nat} (hB : B < 65536) (hj : j < 16) : ((nI B >>> (nI j &&& 31)) &&& 1) = 1 ↔ B.testBit j = true := by
  rw [shr_bit hB hj, show (1 : Int32) = nI 1 from rfl, nI_eq (by omega) (by omega), Nat.testBit_eq_decide_div_mod_eq, decide_eq_true_iff]
/-- the same number without a bit that was there -/
theorem sub_bit {B j : Nat} (h : B.testBit j = true) (i : Nat) : (B - 2 ^ j).testBit i = (B.testBit i && decide (¬ i = j)) := by
  have hge := Nat.ge_two_pow_of_testBit h
  have hp : 0 < 2 ^ j := Nat.two_pow_pos j
  have hodd : B / 2 ^ j % 2 = 1 := by
    rw [Nat.testBit_eq_decide_div_mod_eq] at h
    exact of_decide_eq_true h
  have hr : B % 2 ^ j < 2 ^ j := Nat.mod_lt _ hp
  have e1 : B = 2 ^ j * (B / 2 ^ j) + B % 2 ^ j := (Nat.div_add_mod B (2 ^ j)).symm
  obtain ⟨a, ha⟩ : ∃ a, B / 2 ^ j = 2 * a + 1 := ⟨B / 2 ^ j / 2, by omega⟩
  generalize B % 2 ^ j = r at hr e1
  rw [ha] at e1
  have e2 : B - 2 ^ j = 2 ^ j * (2 * a) + r := by
    rw [e1, Nat.mul_add, Nat.mul_one]
    omega
  rw [e2, Nat.testBit_two_pow_mul_add _ hr]
  conv => rhs; rw [e1, Nat.testBit_two_pow_mul_add _ hr]
  by_cases h1 : i < j
  · rw [if_pos h1, if_pos h1, decide_eq_true (by omega), Bool.and_true]
  · rw [if_neg h1, if_neg h1]
    by_cases h2 : i = j
    · subst h2
      rw [Nat.sub_self, decide_eq_false (by omega), Bool.and_false, Nat.testBit_zero]
      simp
    · rw [decide_eq_true h2, Bool.and_true]
      obtain ⟨m, hm⟩ : ∃ m, i - j = m + 1 := ⟨i - j - 1, by omega⟩
      rw [hm, Nat.testBit_add_one, Nat.testBit_add_one]
      congr 1
      omega
theorem clr_bit {B j : Nat} (hB : B < 65536) (hj : j < 16) (h : B.testBit j = true) : nI B &&& (((1 : Int32) <<< (nI j &&& 31)) ^^^ (-1)) = nI (B - 2 ^ j) := by
  apply b_ext
  intro i hi
  rw [b_and, b_xor, b_m1 i hi, one_shl j hj, bt_nI hi, bt_nI hi, bt_nI hi, sub_bit h, Nat.testBit_two_pow]
  by_cases e : j = i
  · subst e; simp
  · simp [e, Ne.symm e]
theorem sub_nI {B j : Nat} (hj : j < 16) (h : B.testBit j = true) : nI B - ((1 : Int32) <<< (nI j &&& 31)) = nI (B - 2 ^ j) := by
  rw [one_shl j hj, pk_sub (Nat.ge_two_pow_of_testBit h)]
theorem is_one {B j : Nat} (hB : B < 65536) (hj : j < 16) : nI B = (1 : Int32) <<< (nI j &&& 31) ↔ B = 2 ^ j := by
  rw [one_shl j hj]
  have := pw16 hj
  exact nI_eq (by omega) (by omega)
/-- how many bits -/
def pc (B : Nat) : Nat → Nat
  | 0 => 0
  | k + 1 => pc B k + (if B.testBit k = true then 1 else 0)
theorem pc_le (B : Nat) : ∀ k, pc B k ≤ k
  | 0 => Nat.le_refl _
  | k + 1 => by
    have := pc_le B k
    unfold pc
    split <;> omega
theorem pc_sub {B j : Nat} (h : B.testBit j = true) : ∀ k, (j < k → pc (B - 2 ^ j) k + 1 = pc B k) ∧ (k ≤ j → pc (B - 2 ^ j) k = pc B k)
  | 0 => ⟨fun z => absurd z (by omega), fun _ => rfl⟩
  | k + 1 => by
    obtain ⟨h1, h2⟩ := pc_sub h k
    unfold pc
    rw [sub_bit h]
    by_cases e : k = j
    · subst e
      have h3 := h2 (Nat.le_refl _)
      refine ⟨fun _ => ?_, fun z => absurd z (by omega)⟩
      rw [h3, h]
      simp
    · rw [decide_eq_true e, Bool.and_true]
      refine ⟨fun z => ?_, fun z => ?_⟩
      · have := h1 (by omega)
        omega
      · have := h2 (by omega)
        omega
theorem pc_zero {B : Nat} : ∀ k, B < 2 ^ k → pc B k = 0 → B = 0
  | 0, h, _ => by omega
  | k + 1, h, hp => by
    unfold pc at hp
    by_cases hb : B.testBit k = true
    · rw [if_pos hb] at hp; omega
    · have hlt : B < 2 ^ k := by
        apply Nat.lt_pow_two_of_testBit
        intro i hi
        by_cases e : i = k
        · subst e; simpa using hb
        · exact Nat.testBit_lt_two_pow (Nat.lt_of_lt_of_le h (Nat.pow_le_pow_right (by decide) (by omega)))
      exact pc_zero k hlt (by omega)

