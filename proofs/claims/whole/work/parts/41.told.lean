theorem vf_spec (g : Nat → Int32) (x : Int32) : ∀ k j, (j ≤ vf g x k j ∧ vf g x k j < j + k ∧ g (vf g x k j) = x) ∨ (vf g x k j = j + k ∧ ∀ i, j ≤ i → i < j + k → ¬ g i = x)
  | 0, j => Or.inr ⟨rfl, fun i h1 h2 => absurd h2 (by omega)⟩
  | k + 1, j => by
    by_cases e : g j = x
    · have h : vf g x (k + 1) j = j := by simp only [vf]; rw [if_pos e]
      rw [h]
      exact Or.inl ⟨by omega, by omega, e⟩
    · have h : vf g x (k + 1) j = vf g x k (j + 1) := by simp only [vf]; rw [if_neg e]
      rw [h]
      rcases vf_spec g x k (j + 1) with ⟨h1, h2, h3⟩ | ⟨h1, h2⟩
      · exact Or.inl ⟨by omega, by omega, h3⟩
      · refine Or.inr ⟨by omega, fun i h3 h4 => ?_⟩
        by_cases e2 : i = j
        · rw [e2]; exact e
        · exact h2 i (by omega) (by omega)
/-- no two of the sets told are the same -/
def Dst (g : Nat → Int32) (q : Nat) : Prop := ∀ i j, i < q → j < q → g i = g j → i = j
theorem po_some (g : Nat → Int32) (x : Int32) : ∀ m i, i < m → g i = x → ∃ j, j < m ∧ po g x m = nI j ∧ g j = x
  | 0, i, h, _ => absurd h (by omega)
  | m + 1, i, hi, hg => by
    by_cases e1 : g m = x
    · exact ⟨m, by omega, by simp only [po]; rw [if_pos e1], e1⟩
    · have hne : i ≠ m := fun z => e1 (by rw [← z]; exact hg)
      obtain ⟨j, b1, b2, b3⟩ := po_some g x m i (by omega) hg
      exact ⟨j, by omega, by simp only [po]; rw [if_neg e1]; exact b2, b3⟩
theorem po_vf {g : Nat → Int32} {q : Nat} (x : Int32) (hd : Dst g q) : (vf g x q 0 = q ∧ po g x q = -1 ∧ ∀ i, i < q → ¬ g i = x) ∨ (vf g x q 0 < q ∧ po g x q = nI (vf g x q 0) ∧ g (vf g x q 0) = x) := by
  rcases vf_spec g x q 0 with ⟨h1, h2, h3⟩ | ⟨h1, h2⟩
  · right
    obtain ⟨j, a1, a2, a3⟩ := po_some g x q _ (show vf g x q 0 < q by omega) h3
    refine ⟨by omega, ?_, h3⟩
    rw [a2, hd j _ a1 (by omega) (a3.trans h3.symm)]
  · left
    refine ⟨by omega, ?_, fun i hi => h2 i (by omega) (by omega)⟩
    rcases po_or g x q with e | ⟨j, a1, a2, a3⟩
    · exact e
    · exact absurd a3 (h2 j (by omega) (by omega))
theorem stay_eq {g h : Nat → Int32} {q : Nat} (hq : q ≤ 100) (hd : Dst g q) (x : Int32) : fn_V_stayFor g h q x = fn_M_stays q g h x := by
  unfold fn_V_stayFor fn_M_stays
  rcases po_vf x hd with ⟨h1, h2, -⟩ | ⟨h1, h2, -⟩
  · rw [h1, h2, if_pos (nI_le (Nat.le_refl _) (by omega)), if_pos rfl]
  · rw [h2, if_neg (nI_ge h1 (by omega)), if_neg (nI_nm1 (by omega)), nI_clamp (by omega)]
theorem upd_same {g : Nat → Int32} {i : Nat} {x : Int32} (h : g i = x) : upd g i x = g := by
  funext j
  unfold upd
  split
  · rename_i e; rw [e, h]
  · rfl
/-- what tell does: no room, a new set, an old one -/
theorem tell_room {g h : Nat → Int32} {q : Nat} {x y : Int32} (hv : vf g x q 0 = q) (hq : q = 100) : tlr g q x = 0 ∧ tlg g q x = g ∧ tlh g h q x y = h ∧ tln g q x = q := by
  have c : nI (vf g x q 0) = nI q := by rw [hv]
  have c2 : ¬ nI q < 100 := by rw [hq]; decide
  unfold tlr tlg tlh tln
  rw [if_pos c, if_pos c, if_pos c, if_pos c, if_neg c2, if_neg c2, if_neg c2, if_neg c2]
  exact ⟨rfl, rfl, rfl, rfl⟩
theorem tell_new {g h : Nat → Int32} {q : Nat} {x y : Int32} (hv : vf g x q 0 = q) (hq : q < 100) : tlr g q x = 1 ∧ tlg g q x = upd g q x ∧ tlh g h q x y = upd h q (vp_nar .boolean y) ∧ tln g q x = q + 1 := by
  have c : nI (vf g x q 0) = nI q := by rw [hv]
  have c2 : nI q < 100 := nI_lt (b := 100) hq (by omega)
  unfold tlr tlg tlh tln
  rw [if_pos c, if_pos c, if_pos c, if_pos c, if_pos c2, if_pos c2, if_pos c2, if_pos c2, hv]
  exact ⟨rfl, rfl, rfl, rfl⟩
theorem tell_old {g h : Nat → Int32} {q : Nat} {x y : Int32} (hq : q ≤ 100) (hv : vf g x q 0 < q) : tlr g q x = 1 ∧ tlg g q x = g ∧ tlh g h q x y = upd h (vf g x q 0) (vp_nar .boolean y) ∧ tln g q x = q := by
  have c : ¬ nI (vf g x q 0) = nI q := fun e => absurd ((nI_eq (by omega) (by omega)).mp e) (by omega)
  unfold tlr tlg tlh tln
  rw [if_neg c, if_neg c, if_neg c, if_neg c]
  exact ⟨rfl, rfl, rfl, rfl⟩
theorem Dst.new {g : Nat → Int32} {q : Nat} {x : Int32} (hd : Dst g q) (hx : ∀ i, i < q → ¬ g i = x) : Dst (upd g q x) (q + 1) := by
  intro i j hi hj e
  unfold upd at e
  split at e
  · rename_i e1
    split at e
    · rename_i e2; omega
    · rename_i e2; exact absurd e.symm (hx j (by omega))
  · rename_i e1
    split at e
    · rename_i e2; exact absurd e (hx i (by omega))
    · exact hd i j (by omega) (by omega) e
theorem nz_new {g : Nat → Int32} {q : Nat} {x : Int32} (hz : ∀ i, i < q → ¬ g i = 0) (hx : ¬ x = 0) : ∀ i, i < q + 1 → ¬ upd g q x i = 0 := by
  intro i hi
  unfold upd
  split
  · exact hx
  · exact hz i (by omega)
theorem stay_0 {g h : Nat → Int32} {q : Nat} (hq : q ≤ 100) (hz : ∀ i, i < q → ¬ g i = 0) : fn_V_stayFor g h q 0 = 0 := by
  unfold fn_V_stayFor
  rcases vf_spec g 0 q 0 with ⟨h1, h2, h3⟩ | ⟨h1, h2⟩
  · exact absurd h3 (hz _ (by omega))
  · rw [if_pos]
    exact nI_le (by omega) (by omega)

