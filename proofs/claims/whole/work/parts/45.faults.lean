theorem xorM {x y : Int64} : (x ^^^ (-9223372036854775808)) = (y ^^^ (-9223372036854775808)) ↔ x = y := by
  constructor
  · intro h
    have e := congrArg (fun z : Int64 => z ^^^ (-9223372036854775808)) h
    simp only [Int64.xor_assoc, Int64.xor_self, Int64.xor_zero] at e
    exact e
  · intro h; rw [h]
theorem above_eq {n i j : Nat} {f : Nat → Int64} {sd : Int64} {k : Int32} (hn : n ≤ 16) (hi : i < n) (hj : j < n) (hf : ∀ i, i < n → f i = zN sd k (nI i)) (b : Int32) :
    (if fn_D_isAbove n f (nI j) (nI i) = 0 then b else b + 1) = (if fn_M_isLess (zN sd k (nI i)) (zN sd k (nI j)) = 0 then (if lg_cmp (zN sd k (nI i)) (zN sd k (nI j)) = 0 then (if nI j ≤ nI i then b else b + 1) else b) else b + 1) := by
  have e : fn_D_isAbove n f (nI j) (nI i) = if 0 < lg_cmp (zN sd k (nI j) ^^^ (-9223372036854775808)) (zN sd k (nI i) ^^^ (-9223372036854775808)) then 1 else (if lg_cmp (zN sd k (nI j) ^^^ (-9223372036854775808)) (zN sd k (nI i) ^^^ (-9223372036854775808)) = 0 then (if nI j ≤ nI i then 0 else 1) else 0) := by
    unfold fn_D_isAbove
    rw [has_nI hn hi, has_nI hn hj, if_neg (by decide), if_neg (by decide), nI_clamp (by omega), nI_clamp (by omega), hf i hi, hf j hj]
  rw [e]
  unfold fn_M_isLess
  generalize zN sd k (nI i) = zi
  generalize zN sd k (nI j) = zj
  have g1 := lg_cmp_gt (zj ^^^ (-9223372036854775808)) (zi ^^^ (-9223372036854775808))
  have g2 := lg_cmp_ge (zi ^^^ (-9223372036854775808)) (zj ^^^ (-9223372036854775808))
  have g3 := (lg_cmp_eq (zj ^^^ (-9223372036854775808)) (zi ^^^ (-9223372036854775808))).trans xorM
  have g4 := lg_cmp_eq zi zj
  by_cases h1 : (zi ^^^ (-9223372036854775808)) < (zj ^^^ (-9223372036854775808))
  · have h2 : ¬ (zj ^^^ (-9223372036854775808)) ≤ (zi ^^^ (-9223372036854775808)) := by
      rw [Int64.le_iff_toInt_le]
      rw [Int64.lt_iff_toInt_lt] at h1
      omega
    rw [if_pos (g1.mpr h1), if_neg (by decide), if_neg (fun z => h2 (g2.mp z)), if_neg (by decide)]
  · have h2 : (zj ^^^ (-9223372036854775808)) ≤ (zi ^^^ (-9223372036854775808)) := by
      rw [Int64.le_iff_toInt_le]
      rw [Int64.lt_iff_toInt_lt] at h1
      omega
    rw [if_neg (fun z => h1 (g1.mp z)), if_pos (g2.mpr h2), if_pos rfl]
    by_cases h3 : zj = zi
    · rw [if_pos (g3.mpr h3), if_pos (g4.mpr h3.symm)]
      by_cases h4 : nI j ≤ nI i
      · rw [if_pos h4, if_pos h4, if_pos rfl]
      · rw [if_neg h4, if_neg h4, if_neg (by decide)]
    · rw [if_neg (fun z => h3 (g3.mp z)), if_neg (fun z => h3 (g4.mp z).symm), if_pos rfl]
theorem ca_hbf {n i : Nat} {f : Nat → Int64} {sd : Int64} {k : Int32} (hn : n ≤ 16) (hi : i < n) (hf : ∀ i, i < n → f i = zN sd k (nI i)) : ∀ j, j ≤ n → ca n f (nI i) j = hbf sd k (nI i) j
  | 0, _ => rfl
  | j + 1, hj => by
    simp only [ca, hbf]
    rw [ca_hbf hn hi hf j (by omega)]
    exact above_eq hn hi (by omega) hf _
theorem or_bit {B j : Nat} (hB : B < 2 ^ j) (hj : j < 16) : nI B ||| ((1 : Int32) <<< (nI j &&& 31)) = nI (B ||| 2 ^ j) := by
  apply b_ext
  intro i hi
  rw [b_or, one_shl j hj, bt_nI hi, bt_nI hi, bt_nI hi, Nat.testBit_or]
theorem gh_bits {n : Nat} {f : Nat → Int64} : ∀ j, j ≤ 16 → ∃ B, B < 2 ^ j ∧ gh n f j = nI B ∧ ∀ i, i < j → (B.testBit i = true ↔ ¬ nI n / 2 ≤ ca n f (nI i) n)
  | 0, _ => ⟨0, by omega, rfl, fun i h => absurd h (by omega)⟩
  | j + 1, hj => by
    obtain ⟨B, h1, h2, h3⟩ := gh_bits (n := n) (f := f) j (by omega)
    have hb0 : B.testBit j = false := Nat.testBit_lt_two_pow h1
    simp only [gh]
    by_cases c : nI n / 2 ≤ ca n f (nI j) n
    · rw [if_pos c]
      refine ⟨B, Nat.lt_of_lt_of_le h1 (Nat.pow_le_pow_right (by decide) (by omega)), h2, fun i hi => ?_⟩
      by_cases e : i = j
      · subst e
        rw [hb0]
        exact ⟨fun z => (by cases z), fun z => absurd c z⟩
      · exact h3 i (by omega)
    · rw [if_neg c, h2, or_bit h1 (by omega)]
      refine ⟨B ||| 2 ^ j, Nat.or_lt_two_pow (Nat.lt_of_lt_of_le h1 (Nat.pow_le_pow_right (by decide) (by omega))) (Nat.pow_lt_pow_right (by decide) (by omega)), rfl, fun i hi => ?_⟩
      rw [Nat.testBit_or, Nat.testBit_two_pow]
      by_cases e : j = i
      · subst e
        rw [hb0, decide_eq_true rfl]
        exact ⟨fun _ => c, fun _ => rfl⟩
      · rw [decide_eq_false e, Bool.or_false]
        exact h3 i (by omega)
/-- the bits of the faults are the reference's answers -/
theorem fb_bits {n : Nat} {f : Nat → Int64} {sd : Int64} {k : Int32} (hn : n ≤ 16) (hf' : ∀ i, i < n → f i = zN sd k (nI i)) : ∃ B, B < 2 ^ n ∧ fbN k n f = nI B ∧ ∀ i, i < n → ((B.testBit i = true ∧ hf sd k n (nI i) = 1) ∨ (B.testBit i = false ∧ hf sd k n (nI i) = 0)) := by
  by_cases e : k = 3
  · obtain ⟨B, h1, h2, h3⟩ := gh_bits (n := n) (f := f) n hn
    refine ⟨B, h1, ?_, fun i hi => ?_⟩
    · unfold fbN
      rw [if_pos e, h2]
    · have hc := ca_hbf hn hi hf' n (Nat.le_refl _)
      have h4 := h3 i hi
      rw [hc] at h4
      unfold hf
      rw [if_pos e]
      by_cases c : nI n / 2 ≤ hbf sd k (nI i) n
      · rw [if_pos c]
        refine Or.inr ⟨?_, rfl⟩
        cases hb : B.testBit i
        · rfl
        · exact absurd c (h4.mp hb)
      · rw [if_neg c]
        exact Or.inl ⟨h4.mpr c, rfl⟩
  · refine ⟨0, Nat.two_pow_pos n, ?_, fun i hi => Or.inr ⟨Nat.zero_testBit i, ?_⟩⟩
    · unfold fbN
      rw [if_neg e]
      rfl
    · unfold hf
      rw [if_neg e]
theorem faults_eq {n i : Nat} {f : Nat → Int64} {sd : Int64} {k fb : Int32} (hn : n ≤ 16) (hi : i < n) (hf' : ∀ i, i < n → f i = zN sd k (nI i)) (hfb : fb = fbN k n f) : fn_D_hasFaults n fb (nI i) = hf sd k n (nI i) := by
  obtain ⟨B, h1, h2, h3⟩ := fb_bits hn hf'
  have h6 := pw16' hn
  unfold fn_D_hasFaults
  rw [has_nI hn hi, if_neg (by decide), hfb, h2, shr_bit (by omega) (by omega)]
  rcases h3 i hi with ⟨a1, a2⟩ | ⟨a1, a2⟩
  · rw [Nat.testBit_eq_decide_div_mod_eq, decide_eq_true_iff] at a1
    rw [a1, a2, if_neg (by decide)]
  · rw [Nat.testBit_eq_decide_div_mod_eq, decide_eq_false_iff_not] at a1
    rw [show B / 2 ^ i % 2 = 0 by omega, a2, if_pos (by decide)]

