theorem has_nI {n i : Nat} (hn : n ≤ 16) (hi : i < n) : fn_D_has n (nI i) = 1 := by
  unfold fn_D_has
  rw [if_neg (nI_pos (by omega)), if_neg (nI_ge hi (by omega))]
theorem has_get {n : Nat} {x : Int32} (hn : n ≤ 16) (h : ¬ fn_D_has n x = 0) : ∃ i, i < n ∧ x = nI i := by
  unfold fn_D_has at h
  split at h
  · exact absurd rfl h
  · split at h
    · exact absurd rfl h
    · rename_i h1 h2
      obtain ⟨j, hj, rfl⟩ := nI_of h1
      exact ⟨j, Nat.lt_of_not_le (fun q => h2 (nI_le q hj)), rfl⟩
theorem nIm1 {n : Nat} (hn : n ≤ 16) : (nI n - 1).toInt = (n : Int) - 1 := pk_sub_toInt (b := 1) (by omega) (by omega)
theorem has_in_eq {n : Nat} (hn : n ≤ 16) (x : Int32) : fn_M_in x 0 (nI n - 1) = fn_D_has n x := by
  have e := nIm1 hn
  have e2 := nI_toInt (n := n) (by omega)
  have z : (0 : Int32).toInt = 0 := by decide
  unfold fn_M_in fn_D_has
  by_cases h1 : x < 0
  · rw [if_pos h1, if_pos h1]
  · rw [if_neg h1, if_neg h1]
    by_cases h2 : nI n ≤ x
    · rw [if_pos h2, if_pos]
      rw [Int32.lt_iff_toInt_lt, e]
      rw [Int32.le_iff_toInt_le, e2] at h2
      omega
    · rw [if_neg h2, if_neg]
      rw [Int32.lt_iff_toInt_lt, e]
      rw [Int32.le_iff_toInt_le, e2] at h2
      omega
theorem dr_eq (a b : Int32) : mdr a b = fn_P_isDrawable a b := by
  have l15 : (15 : Int32).toInt = 15 := by decide
  have l16 : (16 : Int32).toInt = 16 := by decide
  have key : (15 : Int32) < b ↔ (16 : Int32) ≤ b := by
    rw [Int32.lt_iff_toInt_lt, Int32.le_iff_toInt_le, l15, l16]
    omega
  unfold mdr fn_P_isDrawable fn_M_in
  by_cases h1 : a < 0
  · rw [if_pos h1, if_pos h1, if_pos rfl]
  · rw [if_neg h1, if_neg h1]
    by_cases h2 : 4 < a
    · rw [if_pos h2, if_pos h2, if_pos rfl]
    · rw [if_neg h2, if_neg h2, if_neg (by decide)]
      by_cases h3 : b < 0
      · rw [if_pos h3, if_pos h3, if_pos rfl]
      · rw [if_neg h3, if_neg h3]
        by_cases h4 : 15 < b
        · rw [if_pos h4, if_pos (key.mp h4), if_pos rfl]
        · rw [if_neg h4, if_neg (fun q => h4 (key.mpr q)), if_neg (by decide)]
theorem dr_get {a b : Int32} (h : ¬ fn_P_isDrawable a b = 0) : ∃ z, z < 16 ∧ b = nI z ∧ ¬ a < 0 ∧ ¬ 4 < a := by
  unfold fn_P_isDrawable at h
  split at h
  · exact absurd rfl h
  · split at h
    · exact absurd rfl h
    · split at h
      · exact absurd rfl h
      · split at h
        · exact absurd rfl h
        · rename_i h1 h2 h3 h4
          obtain ⟨j, hj, rfl⟩ := nI_of h3
          exact ⟨j, Nat.lt_of_not_le (fun q => h4 (nI_le (a := 16) q hj)), rfl, h1, h2⟩
theorem fact_eq {n i : Nat} {f : Nat → Int64} {z : Int64} (hn : n ≤ 16) (hi : i < n) (hz : f i = z) {w : Int32} (hw : w = 1 ∨ w = 2 ∨ w = 3 ∨ w = 4) : fn_D_fact n f (nI i) w = fn_M_fact z w := by
  have hu := uN_lt z
  unfold fn_D_fact fn_M_fact
  rw [has_nI hn hi, if_neg (by decide), nI_clamp (by omega), hz]
  rcases hw with rfl | rfl | rfl | rfl
  · rw [if_pos rfl, if_pos rfl, fct1]
    exact (restN z (d := 100) (by omega) (by omega)).symm
  · rw [if_neg (by decide), if_pos rfl, if_neg (by decide), if_pos rfl, fct2]
    refine ((restN _ (d := 1000) (by omega) (by omega)).trans ?_).symm
    rw [sh8, uN_lN (by omega)]
  · rw [if_neg (by decide), if_neg (by decide), if_pos rfl, if_neg (by decide), if_neg (by decide), if_pos rfl, fct3]
    refine ((restN _ (d := 24) (by omega) (by omega)).trans ?_).symm
    rw [sh24, uN_lN (by omega)]
  · rw [if_neg (by decide), if_neg (by decide), if_neg (by decide), if_pos rfl, if_neg (by decide), if_neg (by decide), if_neg (by decide), fct4]
    refine ((restN _ (d := 2) (by omega) (by omega)).trans ?_).symm
    rw [sh40, uN_lN (by omega)]
theorem fl_at (sd : Int64) (k : Int32) (f : Nat → Int64) : ∀ n i, i < n → fl sd k f n i = zN sd k (nI i)
  | 0, _, h => absurd h (by omega)
  | n + 1, i, h => by
    unfold fl
    by_cases e : i = n
    · subst e
      exact pk_uLs
    · rw [pk_uLn e]
      exact fl_at sd k f n i (by omega)

