/-! leaving out, one after the other: on numbers -/
section Passes
variable (g h : Nat → Int32) (q : Nat)
/-- part j can be left out of B -/
def rmv (B j : Nat) : Bool := B.testBit j && decide (¬ fn_V_stayFor g h q (nI (B - 2 ^ j)) = 0)
def stp (B j : Nat) : Nat := if rmv g h q B j = true then B - 2 ^ j else B
/-- kk parts from j on -/
def pf : Nat → Nat → Nat → Nat
  | 0, _, B => B
  | kk + 1, j, B => pf kk (j + 1) (stp g h q B j)
def gtN (B : Nat) : Nat → Nat
  | 0 => B
  | j + 1 => stp g h q (gtN B j) j
theorem stp_le (B j : Nat) : stp g h q B j ≤ B := by
  unfold stp
  split
  · exact Nat.sub_le _ _
  · exact Nat.le_refl _
theorem pf_le : ∀ kk j B, pf g h q kk j B ≤ B
  | 0, _, _ => Nat.le_refl _
  | kk + 1, j, B => Nat.le_trans (pf_le kk (j + 1) _) (stp_le g h q B j)
theorem gtN_le (B : Nat) : ∀ j, gtN g h q B j ≤ B
  | 0 => Nat.le_refl _
  | j + 1 => Nat.le_trans (stp_le g h q _ j) (gtN_le B j)
theorem pf_gtN (B : Nat) : ∀ kk j, pf g h q kk j (gtN g h q B j) = gtN g h q B (j + kk)
  | 0, j => rfl
  | kk + 1, j => by
    show pf g h q kk (j + 1) (stp g h q (gtN g h q B j) j) = _
    rw [show stp g h q (gtN g h q B j) j = gtN g h q B (j + 1) from rfl, pf_gtN B kk (j + 1)]
    congr 1
    omega
theorem cl_eq {B j : Nat} (hB : B < 65536) (hj : j < 16) : fn_P_canLeaveOut g h q (nI B) (nI j) = 0 ↔ rmv g h q B j = false := by
  unfold fn_P_canLeaveOut rmv
  by_cases hb : B.testBit j = true
  · rw [if_neg (fun z => by rw [(and_bit hB hj).mp z] at hb; cases hb), clr_bit hB hj hb, hb, Bool.true_and]
    by_cases hs : fn_V_stayFor g h q (nI (B - 2 ^ j)) = 0
    · rw [if_pos hs]; simp [hs]
    · rw [if_neg hs]; simp [hs]
  · have hb' : B.testBit j = false := by simpa using hb
    rw [if_pos ((and_bit hB hj).mpr hb'), hb', Bool.false_and]
    simp
theorem gt_gtN {B : Nat} (hB : B < 65536) : ∀ j, j ≤ 16 → gt g h q (nI B) j = nI (gtN g h q B j)
  | 0, _ => rfl
  | j + 1, hj => by
    have ih := gt_gtN hB j (by omega)
    have hl := gtN_le g h q B j
    simp only [gt, gtN]
    rw [ih]
    unfold stp
    by_cases hr : rmv g h q (gtN g h q B j) j = true
    · rw [if_neg (fun z => by rw [(cl_eq g h q (by omega) (by omega)).mp z] at hr; cases hr), if_pos hr]
      have hb : (gtN g h q B j).testBit j = true := by
        unfold rmv at hr
        rw [Bool.and_eq_true] at hr
        exact hr.1
      exact clr_bit (by omega) (by omega) hb
    · have hr' : rmv g h q (gtN g h q B j) j = false := by simpa using hr
      rw [if_pos ((cl_eq g h q (by omega) (by omega)).mpr hr'), if_neg hr]
/-- bits beyond n aren't there: nothing to leave out -/
theorem pf_beyond {n B : Nat} (hB : B < 2 ^ n) : ∀ kk j, n ≤ j → pf g h q kk j B = B
  | 0, _, _ => rfl
  | kk + 1, j, hj => by
    have hb : B.testBit j = false := Nat.testBit_lt_two_pow (Nat.lt_of_lt_of_le hB (Nat.pow_le_pow_right (by decide) hj))
    have hs : stp g h q B j = B := by
      unfold stp rmv
      rw [hb, Bool.false_and, if_neg (by decide)]
    show pf g h q kk (j + 1) (stp g h q B j) = B
    rw [hs]
    exact pf_beyond hB kk (j + 1) (by omega)
theorem pf_add : ∀ a b j B, pf g h q (a + b) j B = pf g h q b (j + a) (pf g h q a j B)
  | 0, b, j, B => by rw [Nat.zero_add]; rfl
  | a + 1, b, j, B => by
    rw [show a + 1 + b = (a + b) + 1 by omega]
    show pf g h q (a + b) (j + 1) (stp g h q B j) = _
    rw [pf_add a b (j + 1)]
    show pf g h q b (j + 1 + a) (pf g h q a (j + 1) (stp g h q B j)) = pf g h q b (j + (a + 1)) (pf g h q a (j + 1) (stp g h q B j))
    rw [show j + 1 + a = j + (a + 1) by omega]
theorem gtN_n {n B : Nat} (hn : n ≤ 16) (hB : B < 2 ^ n) : gtN g h q B 16 = pf g h q n 0 B := by
  have e := pf_gtN g h q B 16 0
  rw [Nat.zero_add] at e
  rw [← e]
  show pf g h q 16 0 B = _
  rw [show (16 : Nat) = n + (16 - n) by omega, pf_add, pf_beyond g h q (Nat.lt_of_le_of_lt (pf_le g h q n 0 B) hB) _ _ (by omega)]
/-- fewer bits behind a step -/
theorem stp_pc (B j : Nat) (hj : j < 16) : pc (stp g h q B j) 16 ≤ pc B 16 ∧ (¬ stp g h q B j = B → pc (stp g h q B j) 16 < pc B 16) := by
  unfold stp
  split
  · rename_i hr
    have hb : B.testBit j = true := by
      unfold rmv at hr
      rw [Bool.and_eq_true] at hr
      exact hr.1
    have := (pc_sub hb 16).1 hj
    exact ⟨by omega, fun _ => by omega⟩
  · exact ⟨Nat.le_refl _, fun z => absurd rfl z⟩
theorem gtN_pc (B : Nat) : ∀ j, j ≤ 16 → pc (gtN g h q B j) 16 ≤ pc B 16 ∧ (¬ gtN g h q B j = B → pc (gtN g h q B j) 16 < pc B 16)
  | 0, _ => ⟨Nat.le_refl _, fun z => absurd rfl z⟩
  | j + 1, hj => by
    obtain ⟨h1, h2⟩ := gtN_pc B j (by omega)
    obtain ⟨h3, h4⟩ := stp_pc g h q (gtN g h q B j) j (by omega)
    refine ⟨Nat.le_trans h3 h1, fun z => ?_⟩
    by_cases e : gtN g h q B j = B
    · rw [show gtN g h q B (j + 1) = stp g h q (gtN g h q B j) j from rfl] at z ⊢
      exact Nat.lt_of_lt_of_le (h4 (by rw [e] at z ⊢; exact z)) h1
    · exact Nat.lt_of_le_of_lt h3 (h2 e)
def laN : Nat → Nat → Nat
  | 0, B => B
  | k + 1, B => if gtN g h q B 16 = B then B else laN k (gtN g h q B 16)
theorem la_laN : ∀ k B, B < 65536 → la g h q k (nI B) = nI (laN g h q k B)
  | 0, _, _ => rfl
  | k + 1, B, hB => by
    have hl := gtN_le g h q B 16
    have e := gt_gtN g h q hB 16 (Nat.le_refl _)
    simp only [la, laN]
    rw [e]
    by_cases c : gtN g h q B 16 = B
    · rw [if_pos (by rw [c]), if_pos c]
    · rw [if_neg (fun z => c ((nI_eq (by omega) (by omega)).mp z)), if_neg c]
      exact la_laN k _ (by omega)
theorem laN_le : ∀ k B, laN g h q k B ≤ B
  | 0, _ => Nat.le_refl _
  | k + 1, B => by
    simp only [laN]
    split
    · exact Nat.le_refl _
    · exact Nat.le_trans (laN_le k _) (gtN_le g h q B 16)
end Passes
section Whiles
variable {g h : Nat → Int32} {q n : Nat}
/-- the reference's search finds the first part that can be left out -/
theorem wo_spec (hq : q ≤ 100) (hd : Dst g q) (hz : ∀ i, i < q → ¬ g i = 0) {B : Nat} (hB : B < 65536) : ∀ kk j, j + kk ≤ 16 →
    (wo g h q (nI B) kk j = -1 ∧ pf g h q kk j B = B ∧ ∀ i, j ≤ i → i < j + kk → rmv g h q B i = false) ∨ (∃ k, j ≤ k ∧ k < j + kk ∧ wo g h q (nI B) kk j = nI k ∧ rmv g h q B k = true ∧ pf g h q kk j B = pf g h q (j + kk - (k + 1)) (k + 1) (B - 2 ^ k))
  | 0, j, _ => Or.inl ⟨rfl, rfl, fun i h1 h2 => absurd h2 (by omega)⟩
  | kk + 1, j, hj => by
    by_cases hr : rmv g h q B j = true
    · right
      have hr2 := hr
      unfold rmv at hr2
      rw [Bool.and_eq_true, decide_eq_true_iff] at hr2
      obtain ⟨hb, hs⟩ := hr2
      have hne : ¬ B = 2 ^ j := by
        intro e
        rw [e, Nat.sub_self] at hs
        exact hs (stay_0 hq hz)
      refine ⟨j, by omega, by omega, ?_, hr, ?_⟩
      · simp only [wo]
        rw [if_pos ((shr_is1 hB (by omega)).mpr hb), if_neg (fun z => hne ((is_one hB (by omega)).mp z)), sub_nI (by omega) hb, ← stay_eq hq hd, if_neg hs]
      · show pf g h q kk (j + 1) (stp g h q B j) = _
        unfold stp
        rw [if_pos hr, show j + (kk + 1) - (j + 1) = kk by omega]
    · have hr' : rmv g h q B j = false := by simpa using hr
      have e1 : wo g h q (nI B) (kk + 1) j = wo g h q (nI B) kk (j + 1) := by
        simp only [wo]
        by_cases hb : B.testBit j = true
        · rw [if_pos ((shr_is1 hB (by omega)).mpr hb)]
          by_cases ho : B = 2 ^ j
          · rw [if_pos ((is_one hB (by omega)).mpr ho)]
          · rw [if_neg (fun z => ho ((is_one hB (by omega)).mp z)), sub_nI (by omega) hb, ← stay_eq hq hd]
            have hs : fn_V_stayFor g h q (nI (B - 2 ^ j)) = 0 := by
              unfold rmv at hr'
              rw [hb, Bool.true_and, decide_eq_false_iff_not] at hr'
              exact Decidable.of_not_not hr'
            rw [if_pos hs]
        · rw [if_neg (fun z => hb ((shr_is1 hB (by omega)).mp z))]
      have e2 : pf g h q (kk + 1) j B = pf g h q kk (j + 1) B := by
        show pf g h q kk (j + 1) (stp g h q B j) = _
        unfold stp
        rw [if_neg hr]
      rw [e1, e2]
      rcases wo_spec hq hd hz hB kk (j + 1) (by omega) with ⟨a1, a2, a3⟩ | ⟨k, a1, a2, a3, a4, a5⟩
      · refine Or.inl ⟨a1, a2, fun i h1 h2 => ?_⟩
        by_cases e : i = j
        · rw [e]; exact hr'
        · exact a3 i (by omega) (by omega)
      · refine Or.inr ⟨k, by omega, by omega, a3, a4, ?_⟩
        rw [a5]
        congr 1
        omega
/-- one going through of the reference's loop -/
theorem ms_pass (hn : n ≤ 16) (hq : q ≤ 100) (hd : Dst g q) (hz : ∀ i, i < q → ¬ g i = 0) : ∀ (m j B : Nat), n - j = m → j ≤ n → B < 2 ^ n →
    ∃ c, ∀ t, msO g h q n (c + t) (nI B) j = if j = 0 ∧ pf g h q (n - j) j B = B then some (nI B) else msO g h q n t (nI (pf g h q (n - j) j B)) 0 := by
  intro m
  induction m using Nat.strongRecOn with
  | ind m ih =>
    intro j B hm hj hB
    have hB6 : B < 65536 := Nat.lt_of_lt_of_le hB (pw16' hn)
    rcases wo_spec (g := g) (h := h) hq hd hz hB6 (n - j) j (by omega) with ⟨a1, a2, -⟩ | ⟨k, a1, a2, a3, a4, a5⟩
    · refine ⟨1, fun t => ?_⟩
      rw [Nat.add_comm 1 t, msO_s, if_pos a1, a2]
      by_cases e : j = 0
      · rw [if_pos e, if_pos ⟨e, rfl⟩]
      · rw [if_neg e, if_neg (fun z => e z.1)]
    · have hb : B.testBit k = true := by
        unfold rmv at a4
        rw [Bool.and_eq_true] at a4
        exact a4.1
      have hge := Nat.ge_two_pow_of_testBit hb
      have hp := Nat.two_pow_pos k
      obtain ⟨c, hc⟩ := ih (n - (k + 1)) (by omega) (k + 1) (B - 2 ^ k) rfl (by omega) (by omega)
      have e5 : j + (n - j) - (k + 1) = n - (k + 1) := by omega
      rw [e5] at a5
      have hle := pf_le g h q (n - (k + 1)) (k + 1) (B - 2 ^ k)
      refine ⟨c + 1, fun t => ?_⟩
      rw [show c + 1 + t = (c + t) + 1 by omega, msO_s, a3, if_neg (nI_nm1 (by omega)), nI_clamp (by omega), sub_nI (by omega) hb, hc t, if_neg (fun z => absurd z.1 (by omega)), a5, if_neg (fun z => absurd z.2 (by omega))]
theorem ms_all (hn : n ≤ 16) (hq : q ≤ 100) (hd : Dst g q) (hz : ∀ i, i < q → ¬ g i = 0) : ∀ (K B : Nat), pc B 16 ≤ K → B < 2 ^ n → ∃ t, msO g h q n t (nI B) 0 = some (nI (laN g h q K B)) := by
  intro K
  induction K with
  | zero =>
    intro B hp hB
    have hB0 : B = 0 := pc_zero 16 (Nat.lt_of_lt_of_le hB (Nat.pow_le_pow_right (by decide) hn)) (by omega)
    obtain ⟨c, hc⟩ := ms_pass (g := g) (h := h) hn hq hd hz n 0 B rfl (by omega) hB
    refine ⟨c + 0, ?_⟩
    have hle := pf_le g h q (n - 0) 0 B
    rw [hc 0, if_pos ⟨rfl, by omega⟩]
    rfl
  | succ K ih =>
    intro B hp hB
    obtain ⟨c, hc⟩ := ms_pass (g := g) (h := h) hn hq hd hz n 0 B rfl (by omega) hB
    have e := gtN_n g h q hn hB
    simp only [laN]
    rw [e]
    have hle := pf_le g h q n 0 B
    by_cases hs : pf g h q n 0 B = B
    · refine ⟨c + 0, ?_⟩
      rw [hc 0, if_pos ⟨rfl, hs⟩, if_pos hs]
    · have hpc := (gtN_pc g h q B 16 (Nat.le_refl _)).2 (by rw [e]; exact hs)
      rw [e] at hpc
      obtain ⟨t, ht⟩ := ih (pf g h q n 0 B) (by omega) (by omega)
      refine ⟨c + t, ?_⟩
      rw [hc t, if_neg (fun z => hs z.2), if_neg hs]
      exact ht
theorem sh_eq (hn : n ≤ 16) (hq : q ≤ 100) (hd : Dst g q) (hz : ∀ i, i < q → ¬ g i = 0) : ∃ t B, B < 2 ^ n ∧ shN n g h q = nI B ∧ mshR g h q n t = some (nI B) := by
  have hp := Nat.two_pow_pos n
  have ha : ((1 : Int32) <<< (nI n &&& 31)) - 1 = nI (2 ^ n - 1) := all_nI n (by omega)
  have ha2 := all_nI n (by omega)
  have h6 := pw16' hn
  unfold shN mshR
  rw [ha, ha2]
  by_cases hs : fn_V_stayFor g h q (nI (2 ^ n - 1)) = 0
  · refine ⟨0, 2 ^ n - 1, by omega, ?_, ?_⟩
    · rw [if_pos hs]
    · rw [if_pos (by rw [← stay_eq hq hd]; exact hs)]
  · obtain ⟨t, ht⟩ := ms_all (g := g) (h := h) hn hq hd hz 16 (2 ^ n - 1) (pc_le _ 16) (by omega)
    refine ⟨t, laN g h q 16 (2 ^ n - 1), Nat.lt_of_le_of_lt (laN_le g h q 16 _) (by omega), ?_, ?_⟩
    · rw [if_neg hs, la_laN g h q 16 _ (by omega)]
    · rw [if_neg (by rw [← stay_eq hq hd]; exact hs)]
      exact ht
end Whiles

