theorem noise_eq (sd : Int64) (a b c : Int32) : fn_P_noise sd a b c = fn_M_rest (zN sd (5 + a) ((12 * c) + b)) 33 - 16 := by
  unfold fn_P_noise
  generalize zN sd (5 + a) ((12 * c) + b) = z
  have h := uN_lt z
  have e := um_dbl z 33 (by omega) (by omega)
  have hm : uN z / 2 % 33 < 33 := Nat.mod_lt _ (by omega)
  have er : fn_M_rest z 33 = nI (uN z % 33) := restN z (d := 33) (by omega) (by omega)
  rw [sh1, show (33 : Int64) = lN 33 from rfl, e, rem_lN (by omega) (by omega) (by omega), lN_i, mod_dbl _ _ (by omega), er]
theorem ink_sgn : ∀ j, j < 10 → ink0 j = sgn j := by decide +kernel
theorem in12 (x : Int32) : fn_M_in x 0 11 = if x < 0 then 0 else if 12 ≤ x then 0 else 1 := by
  have l1 : (11 : Int32).toInt = 11 := by decide
  have l2 : (12 : Int32).toInt = 12 := by decide
  have key : (11 : Int32) < x ↔ (12 : Int32) ≤ x := by
    rw [Int32.lt_iff_toInt_lt, Int32.le_iff_toInt_le, l1, l2]
    omega
  unfold fn_M_in
  by_cases h : (12 : Int32) ≤ x
  · rw [if_pos (key.mpr h), if_pos h]
  · rw [if_neg (fun z => h (key.mp z)), if_neg h]
theorem in20 (x : Int32) : fn_M_in x 0 19 = if x < 0 then 0 else if x < 20 then 1 else 0 := by
  have l1 : (19 : Int32).toInt = 19 := by decide
  have l2 : (20 : Int32).toInt = 20 := by decide
  have key : (19 : Int32) < x ↔ ¬ x < (20 : Int32) := by
    rw [Int32.lt_iff_toInt_lt, Int32.lt_iff_toInt_lt, l1, l2]
    omega
  unfold fn_M_in
  by_cases h : x < (20 : Int32)
  · rw [if_neg (fun z => key.mp z h), if_pos h]
  · rw [if_pos (key.mpr h), if_neg h]
theorem and1_01 (x : Int32) : x &&& 1 = 0 ∨ x &&& 1 = 1 := by
  obtain ⟨j, hj, e⟩ := pk_andE x (m := 1) 1 (by decide)
  rw [e]
  rcases (show j = 0 ∨ j = 1 by omega) with rfl | rfl
  · exact Or.inl rfl
  · exact Or.inr rfl
theorem point_eq {n : Nat} {f : Nat → Int64} {sd : Int64} {k : Int32} (hn : n ≤ 16) (hf' : ∀ i, i < n → f i = zN sd k (nI i)) (a b c : Int32) : fn_P_point sd k n f a b c = fn_M_point sd n k ink0 a b c := by
  unfold fn_P_point fn_M_point
  by_cases hk : k = 1
  · rw [if_pos hk, if_pos hk, has_in_eq hn]
    by_cases hh : fn_D_has n a = 0
    · rw [if_pos hh, if_pos hh]
    · rw [if_neg hh, if_neg hh, in12, in20]
      by_cases h1 : b < 0
      · rw [if_pos h1, if_pos h1, if_pos rfl]
      · rw [if_neg h1, if_neg h1]
        by_cases h2 : 12 ≤ b
        · rw [if_pos h2, if_pos h2, if_pos rfl]
        · rw [if_neg h2, if_neg h2, if_neg (show ¬ (1 : Int32) = 0 by decide)]
          by_cases h3 : c < 0
          · rw [if_pos h3, if_pos h3, if_pos rfl]
          · rw [if_neg h3, if_neg h3]
            by_cases h4 : c < 20
            · rw [if_pos h4, if_pos h4, if_neg (show ¬ (1 : Int32) = 0 by decide)]
              obtain ⟨i, hi, rfl⟩ := has_get hn hh
              have e1 : fn_D_fact n f (nI i) 1 = fn_M_fact (zN sd 1 (nI i)) 1 := fact_eq hn hi (by rw [hf' i hi, hk]) (Or.inl rfl)
              have e2 : fn_M_fact (zN sd 1 (nI i)) 1 = nI (uN (zN sd 1 (nI i)) % 100) := by
                unfold fn_M_fact
                rw [if_pos rfl]
                exact restN _ (d := 100) (by omega) (by omega)
              have hm : uN (zN sd 1 (nI i)) % 100 < 100 := Nat.mod_lt _ (by omega)
              generalize uN (zN sd 1 (nI i)) % 100 = w at e2 hm
              have e3 : nI w - nI w / 10 * 10 = nI (w % 10) := pk_rem (d := 10) (by omega) (by omega) (by omega)
              have hm2 : w % 10 < 10 := Nat.mod_lt _ (by omega)
              rw [e1, e2, e3, nI_clamp (by omega), ink_sgn _ hm2]
              unfold fn_P_isInked
              have hlt : nI (w % 10) < 10 := nI_lt (b := 10) hm2 (by omega)
              rw [if_neg (nI_pos (by omega)), if_pos hlt, nI_clamp (by omega), noise_eq]
              have e4 : (14 : Int32) - (3 * (c / 4)) - (b / 4) = 14 - ((3 * (c / 4)) + (b / 4)) := by
                rw [Int32.sub_sub]
              rw [e4]
              have ea : ∀ p r : Int32, p + r - 16 = p + (r - 16) := fun p r => by
                rw [Int32.sub_eq_add_neg, Int32.sub_eq_add_neg, Int32.add_assoc]
              rcases and1_01 (sgn (w % 10) >>> ((14 - ((3 * (c / 4)) + (b / 4))) &&& 31)) with z | z
              · rw [z, if_pos rfl, if_pos rfl, if_neg (show ¬ (0 : Int32) = 1 by decide), ea]
              · rw [z, if_neg (show ¬ (1 : Int32) = 0 by decide), if_neg (show ¬ (1 : Int32) = 0 by decide), if_pos rfl, ea]
            · rw [if_neg h4, if_neg h4, if_pos rfl]
  · rw [if_neg hk, if_neg hk]

