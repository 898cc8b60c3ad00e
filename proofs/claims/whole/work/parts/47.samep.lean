theorem hi_spec {n : Nat} {f f2 : Nat → Int64} {i : Nat} : ∀ kk w, (hi n f n f2 i kk w = true ↔ ∀ v, w ≤ v → v < w + kk → fn_D_fact n f (nI i) (nI v) = fn_D_fact n f2 (nI i) (nI v))
  | 0, w => ⟨fun _ v h1 h2 => absurd h2 (by omega), fun _ => rfl⟩
  | kk + 1, w => by
    have ih := hi_spec (n := n) (f := f) (f2 := f2) (i := i) kk (w + 1)
    simp only [hi]
    by_cases e : fn_D_fact n f (nI i) (nI w) = fn_D_fact n f2 (nI i) (nI w)
    · rw [if_pos e, ih]
      constructor
      · intro h v h1 h2
        by_cases e2 : v = w
        · rw [e2]; exact e
        · exact h v (by omega) (by omega)
      · intro h v h1 h2
        exact h v (by omega) (by omega)
    · rw [if_neg e]
      exact ⟨fun z => (by cases z), fun h => absurd (h w (by omega) (by omega)) e⟩
theorem ho_spec {n : Nat} {f f2 : Nat → Int64} : ∀ kk i, (ho n f n f2 kk i = true ↔ ∀ j, i ≤ j → j < i + kk → hi n f n f2 j 4 1 = true)
  | 0, i => ⟨fun _ j h1 h2 => absurd h2 (by omega), fun _ => rfl⟩
  | kk + 1, i => by
    have ih := ho_spec (n := n) (f := f) (f2 := f2) kk (i + 1)
    simp only [ho]
    by_cases e : hi n f n f2 i 4 1 = true
    · rw [if_pos e, ih]
      constructor
      · intro h v h1 h2
        by_cases e2 : v = i
        · rw [e2]; exact e
        · exact h v (by omega) (by omega)
      · intro h v h1 h2
        exact h v (by omega) (by omega)
    · rw [if_neg e]
      exact ⟨fun z => (by cases z), fun h => absurd (h i (by omega) (by omega)) e⟩
theorem si_0 (s1 ns : Int64) (k : Int32) (i : Nat) : ∀ kk w, si s1 ns k i kk w 0 = 0
  | 0, _ => rfl
  | kk + 1, w => by
    simp only [si]
    rw [if_pos trivial]
    exact si_0 s1 ns k i kk (w + 1)
theorem si_spec (s1 ns : Int64) (k : Int32) (i : Nat) : ∀ kk w, (si s1 ns k i kk w 1 = 1 ∧ ∀ v, w ≤ v → v < w + kk → fn_M_fact (zN s1 k (nI i)) (nI v) = fn_M_fact (zN ns k (nI i)) (nI v)) ∨ (si s1 ns k i kk w 1 = 0 ∧ ∃ v, w ≤ v ∧ v < w + kk ∧ ¬ fn_M_fact (zN s1 k (nI i)) (nI v) = fn_M_fact (zN ns k (nI i)) (nI v))
  | 0, w => Or.inl ⟨rfl, fun v h1 h2 => absurd h2 (by omega)⟩
  | kk + 1, w => by
    simp only [si]
    rw [if_neg (show ¬ (1 : Int32) = 0 by decide)]
    by_cases e : fn_M_fact (zN s1 k (nI i)) (nI w) = fn_M_fact (zN ns k (nI i)) (nI w)
    · rw [if_pos e]
      rcases si_spec s1 ns k i kk (w + 1) with ⟨a1, a2⟩ | ⟨a1, v, a2, a3, a4⟩
      · refine Or.inl ⟨a1, fun v h1 h2 => ?_⟩
        by_cases e2 : v = w
        · rw [e2]; exact e
        · exact a2 v (by omega) (by omega)
      · exact Or.inr ⟨a1, v, by omega, by omega, a4⟩
    · rw [if_neg e, si_0]
      exact Or.inr ⟨rfl, w, by omega, by omega, e⟩
theorem so_0 (s1 ns : Int64) (k : Int32) (n1 : Nat) : ∀ kk i, so s1 ns k n1 kk i 0 = 0
  | 0, _ => rfl
  | kk + 1, i => by
    simp only [so]
    rw [if_pos trivial]
theorem so_spec (s1 ns : Int64) (k : Int32) (n1 : Nat) : ∀ kk i, (so s1 ns k n1 kk i 1 = 1 ∧ ∀ j, i ≤ j → j < i + kk → (si s1 ns k j 4 1 1 = 1 ∧ hf s1 k n1 (nI j) = hf ns k n1 (nI j))) ∨ (so s1 ns k n1 kk i 1 = 0 ∧ ∃ j, i ≤ j ∧ j < i + kk ∧ ¬ (si s1 ns k j 4 1 1 = 1 ∧ hf s1 k n1 (nI j) = hf ns k n1 (nI j)))
  | 0, i => Or.inl ⟨rfl, fun j h1 h2 => absurd h2 (by omega)⟩
  | kk + 1, i => by
    simp only [so]
    rw [if_neg (show ¬ (1 : Int32) = 0 by decide)]
    by_cases e : si s1 ns k i 4 1 1 = 1 ∧ hf s1 k n1 (nI i) = hf ns k n1 (nI i)
    · rw [e.1, if_neg (show ¬ (1 : Int32) = 0 by decide), if_pos e.2]
      rcases so_spec s1 ns k n1 kk (i + 1) with ⟨a1, a2⟩ | ⟨a1, v, a2, a3, a4⟩
      · refine Or.inl ⟨a1, fun v h1 h2 => ?_⟩
        by_cases e2 : v = i
        · rw [e2]; exact e
        · exact a2 v (by omega) (by omega)
      · exact Or.inr ⟨a1, v, by omega, by omega, a4⟩
    · refine Or.inr ⟨?_, i, by omega, by omega, e⟩
      rcases si_spec s1 ns k i 4 1 with ⟨b1, -⟩ | ⟨b1, -⟩
      · rw [b1, if_neg (show ¬ (1 : Int32) = 0 by decide), if_neg (fun z => e ⟨b1, z⟩), so_0]
      · rw [b1, if_pos rfl, so_0]
theorem w14 {v : Nat} (h1 : 1 ≤ v) (h2 : v < 1 + 4) : nI v = 1 ∨ nI v = 2 ∨ nI v = 3 ∨ nI v = 4 := by
  rcases (show v = 1 ∨ v = 2 ∨ v = 3 ∨ v = 4 by omega) with rfl | rfl | rfl | rfl
  · exact Or.inl rfl
  · exact Or.inr (Or.inl rfl)
  · exact Or.inr (Or.inr (Or.inl rfl))
  · exact Or.inr (Or.inr (Or.inr rfl))
theorem same_eq {n : Nat} {f f2 : Nat → Int64} {ns s1 : Int64} {k : Int32} (hn : n ≤ 16) (h1 : ∀ i, i < n → f i = zN ns k (nI i)) (h2 : ∀ i, i < n → f2 i = zN s1 k (nI i)) : hsp n (fbN k n f) f n (fbN k n f2) f2 = so s1 ns k n n 0 1 := by
  obtain ⟨B1, b1, b2, b3⟩ := fb_bits hn h1
  obtain ⟨B2, c1, c2, c3⟩ := fb_bits hn h2
  have h6 := pw16' hn
  have facts : ∀ j, j < n → (hi n f n f2 j 4 1 = true ↔ si s1 ns k j 4 1 1 = 1) := by
    intro j hj
    have e : ∀ v, 1 ≤ v → v < 1 + 4 → (fn_D_fact n f (nI j) (nI v) = fn_D_fact n f2 (nI j) (nI v) ↔ fn_M_fact (zN s1 k (nI j)) (nI v) = fn_M_fact (zN ns k (nI j)) (nI v)) := by
      intro v v1 v2
      rw [fact_eq hn hj (h1 j hj) (w14 v1 v2), fact_eq hn hj (h2 j hj) (w14 v1 v2)]
      exact ⟨fun z => z.symm, fun z => z.symm⟩
    rw [hi_spec]
    rcases si_spec s1 ns k j 4 1 with ⟨a1, a2⟩ | ⟨a1, v, a2, a3, a4⟩
    · exact ⟨fun _ => a1, fun _ v v1 v2 => (e v v1 v2).mpr (a2 v v1 v2)⟩
    · refine ⟨fun z => absurd ((e v a2 a3).mp (z v a2 a3)) a4, fun z => ?_⟩
      rw [a1] at z
      exact absurd z (by decide)
  unfold hsp
  rw [b2, c2]
  rcases so_spec s1 ns k n n 0 with ⟨a1, a2⟩ | ⟨a1, j, a2, a3, a4⟩
  · have hh : ho n f n f2 n 0 = true := (ho_spec n 0).mpr (fun j _ hj => (facts j (by omega)).mpr (a2 j (by omega) (by omega)).1)
    have hB : B1 = B2 := by
      apply Nat.eq_of_testBit_eq
      intro i
      by_cases hi : i < n
      · have e := (a2 i (by omega) (by omega)).2
        rcases b3 i hi with ⟨p1, p2⟩ | ⟨p1, p2⟩ <;> rcases c3 i hi with ⟨r1, r2⟩ | ⟨r1, r2⟩
        · rw [p1, r1]
        · rw [p2, r2] at e; exact absurd e (by decide)
        · rw [p2, r2] at e; exact absurd e (by decide)
        · rw [p1, r1]
      · rw [Nat.testBit_lt_two_pow (Nat.lt_of_lt_of_le b1 (Nat.pow_le_pow_right (by decide) (by omega))), Nat.testBit_lt_two_pow (Nat.lt_of_lt_of_le c1 (Nat.pow_le_pow_right (by decide) (by omega)))]
    rw [if_pos hh, hB, if_pos rfl, a1]
  · rw [a1]
    by_cases hh : ho n f n f2 n 0 = true
    · rw [if_pos hh, if_neg]
      intro e
      have hB : B1 = B2 := (nI_eq (by omega) (by omega)).mp e
      apply a4
      refine ⟨(facts j (by omega)).mp ((ho_spec n 0).mp hh j (by omega) (by omega)), ?_⟩
      have hj : j < n := by omega
      rcases b3 j hj with ⟨p1, p2⟩ | ⟨p1, p2⟩ <;> rcases c3 j hj with ⟨r1, r2⟩ | ⟨r1, r2⟩
      · rw [p2, r2]
      · rw [hB, r1] at p1; cases p1
      · rw [hB, r1] at p1; cases p1
      · rw [p2, r2]
    · rw [if_neg hh]
theorem part_eq {n : Nat} {f : Nat → Int64} {sd : Int64} {k fb : Int32} (hn : n ≤ 16) (hf' : ∀ i, i < n → f i = zN sd k (nI i)) (hfb : 0 < n → fb = fbN k n f) (a b : Int32) : fn_P_part n fb f a b = fn_M_part sd n k a b := by
  have l4 : (4 : Int32).toInt = 4 := by decide
  have l0 : (0 : Int32).toInt = 0 := by decide
  unfold fn_P_part fn_M_part
  rw [has_in_eq hn]
  by_cases hh : fn_D_has n a = 0
  · rw [if_pos hh, if_pos hh]
  · obtain ⟨i, hi, rfl⟩ := has_get hn hh
    rw [if_neg hh, if_neg hh]
    unfold fn_M_in
    by_cases h1 : b < 0
    · rw [if_pos h1, if_pos h1, if_pos rfl]
    · rw [if_neg h1, if_neg h1]
      by_cases h2 : b ≤ 4
      · have h3 : ¬ 4 < b := by
          rw [Int32.lt_iff_toInt_lt]
          rw [Int32.le_iff_toInt_le] at h2
          omega
        rw [if_pos h2, if_neg h3, if_neg (show ¬ (1 : Int32) = 0 by decide)]
        by_cases h4 : b = 0
        · rw [if_pos h4, if_pos h4, faults_eq hn hi hf' (hfb (by omega))]
        · rw [if_neg h4, if_neg h4]
          refine fact_eq hn hi (hf' i hi) ?_
          obtain ⟨j, hj, rfl⟩ := nI_of h1
          have hj4 : j ≤ 4 := (nI_leI (b := 4) hj (by omega)).mp h2
          have hj0 : ¬ j = 0 := fun z => h4 (by rw [z]; rfl)
          exact w14 (by omega) (by omega)
      · have h3 : 4 < b := by
          rw [Int32.lt_iff_toInt_lt]
          rw [Int32.le_iff_toInt_le] at h2
          omega
        rw [if_neg h2, if_pos h3, if_pos rfl]
theorem faultless_eq {n : Nat} {f : Nat → Int64} {sd : Int64} {k fb : Int32} (hn : n ≤ 16) (hf' : ∀ i, i < n → f i = zN sd k (nI i)) (hfb : 0 < n → fb = fbN k n f) (a : Int32) : fn_P_faultless k n fb a = fn_M_faultless sd n k a := by
  unfold fn_P_faultless fn_M_faultless
  by_cases hk : k = 3
  · rw [if_pos hk, if_pos hk, has_in_eq hn]
    by_cases hh : fn_D_has n a = 0
    · rw [if_pos hh, if_pos hh]
    · obtain ⟨i, hi, rfl⟩ := has_get hn hh
      rw [if_neg hh, if_neg hh, faults_eq hn hi hf' (hfb (by omega))]
  · rw [if_neg hk, if_neg hk]

