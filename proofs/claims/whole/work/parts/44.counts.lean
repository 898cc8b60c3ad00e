theorem co_pc {B : Nat} (hB : B < 65536) : ∀ j, j ≤ 16 → co (nI B) j = nI (pc B j)
  | 0, _ => rfl
  | j + 1, hj => by
    simp only [co, pc]
    rw [co_pc hB j (by omega), shr_bit hB (by omega), nI_add]
    congr 2
    rw [Nat.testBit_eq_decide_div_mod_eq]
    by_cases e : B / 2 ^ j % 2 = 1
    · rw [e]; rfl
    · rw [if_neg (by simpa using e)]; omega
theorem lf_beyond {n B : Nat} (hB : B < 2 ^ n) (hB6 : B < 65536) (i : Int32) : ∀ m j x, n ≤ j → j + m ≤ 16 → lf (nI B) i m j x = -1
  | 0, _, _, _, _ => rfl
  | m + 1, j, x, h1, h2 => by
    have hb : B.testBit j = false := Nat.testBit_lt_two_pow (Nat.lt_of_lt_of_le hB (Nat.pow_le_pow_right (by decide) h1))
    simp only [lf]
    rw [if_pos ((and_bit hB6 (by omega)).mpr hb)]
    exact lf_beyond hB hB6 i m (j + 1) x (by omega) (by omega)
theorem lf_lm {n B : Nat} (hn : n ≤ 16) (hB : B < 2 ^ n) (i : Int32) : ∀ kk j x, j + kk = n → lf (nI B) i (kk + (16 - n)) j x = lm (nI B) i kk j x := by
  have hB6 : B < 65536 := Nat.lt_of_lt_of_le hB (pw16' hn)
  intro kk
  induction kk with
  | zero =>
    intro j x hj
    rw [Nat.zero_add, lf_beyond hB hB6 i (16 - n) j x (by omega) (by omega)]
    rfl
  | succ kk ih =>
    intro j x hj
    rw [show kk + 1 + (16 - n) = (kk + (16 - n)) + 1 by omega]
    simp only [lf, lm]
    by_cases hb : B.testBit j = true
    · rw [if_neg (fun z => by rw [(and_bit hB6 (by omega)).mp z] at hb; cases hb), if_pos ((shr_is1 hB6 (by omega)).mpr hb), ih (j + 1) (x + 1) (by omega)]
    · have hb' : B.testBit j = false := by simpa using hb
      rw [if_pos ((and_bit hB6 (by omega)).mpr hb'), if_neg (fun z => hb ((shr_is1 hB6 (by omega)).mp z)), ih (j + 1) x (by omega)]
theorem left_eq {n B : Nat} (hn : n ≤ 16) (hB : B < 2 ^ n) (i : Int32) : lf (nI B) i 16 0 0 = lm (nI B) i n 0 0 := by
  have e := lf_lm hn hB i n 0 0 (by omega)
  rw [show n + (16 - n) = 16 by omega] at e
  exact e
theorem mn_spec {g h : Nat → Int32} {q B : Nat} (hB : B < 65536) : ∀ kk j, j + kk ≤ 16 → (mn g h q (nI B) kk j = 1 ∧ ∀ i, j ≤ i → i < j + kk → rmv g h q B i = false) ∨ (mn g h q (nI B) kk j = 0 ∧ ∃ i, j ≤ i ∧ i < j + kk ∧ rmv g h q B i = true)
  | 0, j, _ => Or.inl ⟨rfl, fun i h1 h2 => absurd h2 (by omega)⟩
  | kk + 1, j, hj => by
    simp only [mn]
    by_cases hr : rmv g h q B j = true
    · rw [if_neg (fun z => by rw [(cl_eq g h q hB (by omega)).mp z] at hr; cases hr)]
      exact Or.inr ⟨rfl, j, by omega, by omega, hr⟩
    · have hr' : rmv g h q B j = false := by simpa using hr
      rw [if_pos ((cl_eq g h q hB (by omega)).mpr hr')]
      rcases mn_spec (g := g) (h := h) (q := q) hB kk (j + 1) (by omega) with ⟨a1, a2⟩ | ⟨a1, i, a2, a3, a4⟩
      · refine Or.inl ⟨a1, fun i h1 h2 => ?_⟩
        by_cases e : i = j
        · rw [e]; exact hr'
        · exact a2 i (by omega) (by omega)
      · exact Or.inr ⟨a1, i, by omega, by omega, a4⟩
theorem empty_iff {n : Nat} (hn : n ≤ 16) : fn_D_isEmpty n = 0 ↔ ¬ n = 0 := by
  unfold fn_D_isEmpty
  by_cases e : n = 0
  · subst e; decide
  · rw [if_neg (nI_ne0 (by omega) (by omega))]
    exact ⟨fun _ => e, fun _ => rfl⟩
theorem minimal_eq {g h : Nat → Int32} {q n B : Nat} (hn : n ≤ 16) (hq : q ≤ 100) (hd : Dst g q) (hz : ∀ i, i < q → ¬ g i = 0) (hB : B < 2 ^ n) : mnm n g h q (nI B) = fn_M_minimal n (nI B) q g h := by
  have hB6 : B < 65536 := Nat.lt_of_lt_of_le hB (pw16' hn)
  unfold mnm fn_M_minimal
  by_cases e : n = 0
  · subst e
    rw [if_neg (fun z => (empty_iff hn).mp z rfl), if_pos (by decide)]
  · rw [if_pos ((empty_iff hn).mpr e), if_neg (nI_nle (by omega) (by omega)), ← stay_eq hq hd]
    by_cases hs : fn_V_stayFor g h q (nI B) = 0
    · rw [if_pos hs, if_pos hs]
    · rw [if_neg hs, if_neg hs]
      rcases wo_spec (g := g) (h := h) hq hd hz hB6 (n - 0) 0 (by omega) with ⟨a1, -, a3⟩ | ⟨k, a1, a2, a3, a4, -⟩
      · rw [if_pos a1]
        rcases mn_spec (g := g) (h := h) (q := q) hB6 16 0 (by omega) with ⟨b1, -⟩ | ⟨-, i, b2, b3, b4⟩
        · exact b1
        · exfalso
          by_cases hi : i < n
          · rw [a3 i (by omega) (by omega)] at b4; cases b4
          · have hb : B.testBit i = false := Nat.testBit_lt_two_pow (Nat.lt_of_lt_of_le hB (Nat.pow_le_pow_right (by decide) (by omega)))
            unfold rmv at b4
            rw [hb, Bool.false_and] at b4
            cases b4
      · rw [if_neg (by rw [a3]; exact nI_nm1 (by omega))]
        rcases mn_spec (g := g) (h := h) (q := q) hB6 16 0 (by omega) with ⟨-, b2⟩ | ⟨b1, -⟩
        · rw [b2 k (by omega) (by omega)] at a4; cases a4
        · exact b1
/-- bits that are none of the parts' -/
theorem mask_iff {n : Nat} (hn : n ≤ 16) (x : Int32) : (x &&& (fn_D_allBits n ^^^ (-1))) = 0 ↔ (¬ x < 0 ∧ ¬ fn_D_allBits n < x) := by
  have hp := Nat.two_pow_pos n
  have h6 := pw16' hn
  rw [all_nI n (by omega)]
  obtain ⟨X, hX, rfl⟩ := wb_of32 x
  have key : (nI X &&& (nI (2 ^ n - 1) ^^^ (-1))) = 0 ↔ X < 2 ^ n := by
    constructor
    · intro h
      apply Nat.lt_pow_two_of_testBit
      intro i hi
      by_cases hi32 : i < 32
      · have e := congrArg (fun y => bt y i) h
        simp only [b_and, b_xor, b_m1 i hi32, bt_nI hi32, b_0, Nat.testBit_two_pow_sub_one] at e
        rw [decide_eq_false (by omega)] at e
        simpa using e
      · exact Nat.testBit_lt_two_pow (Nat.lt_of_lt_of_le hX (Nat.pow_le_pow_right (by decide) (by omega)))
    · intro h
      apply b_ext
      intro i hi
      rw [b_and, b_xor, b_m1 i hi, bt_nI hi, bt_nI hi, b_0, Nat.testBit_two_pow_sub_one]
      by_cases hin : i < n
      · rw [decide_eq_true hin]; simp
      · rw [Nat.testBit_lt_two_pow (Nat.lt_of_lt_of_le h (Nat.pow_le_pow_right (by decide) (by omega)))]; simp
  rw [key]
  by_cases hb : X < 2 ^ 31
  · rw [nI_ltI (by omega) hb]
    exact ⟨fun z => ⟨nI_pos hb, by omega⟩, fun z => by omega⟩
  · refine ⟨fun z => absurd z (by omega), fun z => absurd ?_ z.1⟩
    rw [Int32.lt_iff_toInt_lt]
    have e : (nI X).toInt = if 2 * X < 2 ^ 32 then (X : Int) else (X : Int) - 2 ^ 32 := by
      have c := BitVec.toInt_eq_toNat_cond (nI X).toBitVec
      have e2 : (nI X).toBitVec.toNat = X := pk_tn hX
      rw [e2] at c
      exact c
    rw [e, if_neg (by omega), show (0 : Int32).toInt = 0 by decide]
    omega
theorem vd_eq {n : Nat} (hn : n ≤ 16) (x : Int32) : mvd n x = vdc n x := by
  unfold mvd vdc fn_M_in
  by_cases e : n = 0
  · subst e
    rw [if_pos (by decide), if_neg (by decide)]
  · rw [if_neg (nI_ne0 (by omega) (by omega)), if_pos ((empty_iff hn).mpr e), show ((1 : Int32) <<< (nI n &&& 31)) - 1 = fn_D_allBits n from rfl]
    have hm := mask_iff hn x
    have l1 : (1 : Int32).toInt = 1 := by decide
    have l0 : (0 : Int32).toInt = 0 := by decide
    by_cases h0 : x = 0
    · rw [if_pos h0, if_pos (show x < 1 by rw [h0]; decide), if_pos rfl]
    · rw [if_neg h0]
      have hlt : x < 1 ↔ x < 0 := by
        have hne : ¬ x.toInt = 0 := fun z => h0 (Int32.toInt_inj.mp (z.trans l0.symm))
        rw [Int32.lt_iff_toInt_lt, Int32.lt_iff_toInt_lt, l1, l0]
        omega
      by_cases h1 : x < 0
      · rw [if_pos (hlt.mpr h1), if_pos rfl, if_neg (fun z => (hm.mp z).1 h1)]
      · rw [if_neg (fun z => h1 (hlt.mp z))]
        by_cases h2 : fn_D_allBits n < x
        · rw [if_pos h2, if_pos rfl, if_neg (fun z => (hm.mp z).2 h2)]
        · rw [if_neg h2, if_neg (by decide), if_pos (hm.mpr ⟨h1, h2⟩)]
theorem vd_0 {n : Nat} {x : Int32} (h : vdc n x = 0) : ¬ x = 0 := by
  intro e
  subst e
  unfold vdc at h
  split at h
  · rw [if_pos rfl] at h
    exact absurd h (by decide)
  · exact absurd h (by decide)

