/-- what the class's state and the reference's have to do with each other -/
def Rel (n : Nat) (sd : Int64) (k fb : Int32) (f : Nat → Int64) (sdM : Int64) (kM : Int32) (g : Nat → Int32) (q B : Nat) : Prop :=
  n ≤ 16 ∧ q ≤ 100 ∧ Dst g q ∧ (∀ i, i < q → ¬ g i = 0) ∧ B < 2 ^ n ∧ ((n = 0 ∧ k = -1 ∧ kM = 0) ∨ (sd = sdM ∧ k = kM ∧ (∀ i, i < n → f i = zN sd k (nI i)) ∧ fb = fbN k n f))
theorem rel_part {n : Nat} {sd : Int64} {k fb : Int32} {f : Nat → Int64} {sdM : Int64} {kM : Int32} {g : Nat → Int32} {q B : Nat} (h : Rel n sd k fb f sdM kM g q B) (a b : Int32) : fn_P_part n fb f a b = fn_M_part sdM n kM a b := by
  obtain ⟨hn, -, -, -, -, h⟩ := h
  rcases h with ⟨h1, -, -⟩ | ⟨h1, h2, h3, h4⟩
  · subst h1
    exact part_eq hn (fun i hi => absurd hi (by omega)) (fun z => absurd z (by omega)) a b
  · subst h1 h2
    exact part_eq hn h3 (fun _ => h4) a b
theorem rel_point {n : Nat} {sd : Int64} {k fb : Int32} {f : Nat → Int64} {sdM : Int64} {kM : Int32} {g : Nat → Int32} {q B : Nat} (h : Rel n sd k fb f sdM kM g q B) (a b c : Int32) : fn_P_point sd k n f a b c = fn_M_point sdM n kM ink0 a b c := by
  obtain ⟨hn, -, -, -, -, h⟩ := h
  rcases h with ⟨-, h1, h2⟩ | ⟨h1, h2, h3, h4⟩
  · subst h1 h2
    unfold fn_P_point fn_M_point
    rw [if_neg (show ¬ (-1 : Int32) = 1 by decide), if_neg (show ¬ (0 : Int32) = 1 by decide)]
  · subst h1 h2
    exact point_eq hn h3 a b c
theorem rel_faultless {n : Nat} {sd : Int64} {k fb : Int32} {f : Nat → Int64} {sdM : Int64} {kM : Int32} {g : Nat → Int32} {q B : Nat} (h : Rel n sd k fb f sdM kM g q B) (a : Int32) : fn_P_faultless k n fb a = fn_M_faultless sdM n kM a := by
  obtain ⟨hn, -, -, -, -, h⟩ := h
  rcases h with ⟨-, h1, h2⟩ | ⟨h1, h2, h3, h4⟩
  · subst h1 h2
    unfold fn_P_faultless fn_M_faultless
    rw [if_neg (show ¬ (-1 : Int32) = 3 by decide), if_neg (show ¬ (0 : Int32) = 3 by decide)]
  · subst h1 h2
    exact faultless_eq hn h3 (fun _ => h4) a
theorem rel_draw {sd : Int64} {k : Int32} {f : Nat → Int64} {g : Nat → Int32} {z : Nat} (hz : z < 16) : Rel (z + 1) sd k (fbN k (z + 1) (fl sd k f (z + 1))) (fl sd k f (z + 1)) sd k g 0 (2 ^ (z + 1) - 1) := by
  have hp := Nat.two_pow_pos (z + 1)
  exact ⟨by omega, by omega, fun i j hi => absurd hi (by omega), fun i hi => absurd hi (by omega), by omega, Or.inr ⟨rfl, rfl, fun i hi => fl_at sd k f (z + 1) i hi, rfl⟩⟩
theorem rel_0 {sd : Int64} {fb : Int32} {f : Nat → Int64} {sdM : Int64} {g : Nat → Int32} : Rel 0 sd (-1) fb f sdM 0 g 0 0 :=
  ⟨by omega, by omega, fun i j hi => absurd hi (by omega), fun i hi => absurd hi (by omega), by decide, Or.inl ⟨rfl, rfl, rfl⟩⟩

