def vf (g : Nat → Int32) (x : Int32) : Nat → Nat → Nat
  | 0, j => j
  | k + 1, j => if g j = x then j else vf g x k (j + 1)
theorem vf_le (g : Nat → Int32) (x : Int32) : ∀ k j, vf g x k j ≤ j + k
  | 0, j => Nat.le_refl _
  | k + 1, j => by
    unfold vf
    split
    · omega
    · have := vf_le g x k (j + 1)
      omega
set_option maxHeartbeats 4000000 in
set_option maxRecDepth 100000 in
theorem c_V_find (l : Launch) (G : GT) (H : Heap) (a : Nat) (b : Nat) (b3 : Nat) (g : Nat → Int32) (h : Nat → Int32) (n : Nat) (p1 : Int32) (hP : va_P G.1 classes [(a, .inr (2, [.ref b, .ref b3, .int (nI n)])), (b, .inl (G.2.2.1, 100, .inl g)), (b3, .inl (G.2.2.2, 100, .inl h))] H) (hn : n ≤ 100) : Met l y_V_find (Cond.code y_V_find b_V_find 3 (some .int) :: TG) ({ frames := 0, cells := 0, slots := 0, locals := 0 }) (PC G H [.ref a, .int p1]) (QcRead (nI (vf g p1 n 0))) 0 0 (fun _ => False) := by
  refine Met.ofW (cc := b_V_find) (maxL := 3) (ret := (some .int)) (by decide) rfl ?_
  intro p e s m args below meth c s₁ B hml hv
  obtain ⟨rfl, hH, hKN⟩ := hv
  subst hH
  have hx := B.exec
  have hb := B.bytes
  have hr := B.returns
  have hts := atoms_spec (ws := (Cond.code y_V_find b_V_find 3 (some .int) :: TG)) B.pre
  have ht : ∀ w ∈ TG, w.before _ s = true := fun w h => hts w (List.mem_cons_of_mem _ h)
  have hown : s.vm.findClass R_V = some m.cls := findClass_of_methodNamed B.named
  have hlocks := B.notSynchronized
  have hK := hKN.1
  have hl := lv_entry ([.ref a, .int p1]) (n := 3) (Nat.le_of_ble_eq_true rfl)
  rw [lg_entry_eq]
  generalize (lg_sl ([.ref a, .int p1]) ++ List.replicate (3 - (lg_sl ([.ref a, .int p1])).length) Slot.unset).toArray = ls at hl ⊢
  have hl : lv_has ls 3 [(0, .ref a), (1, .int p1)] := hl
  refine lv_iconst (v := 0) hx hb d_V_find_0 (by decide) ?_
  refine lv_istore_n (lv' := [(2, .int 0), (0, .ref a), (1, .int p1)]) hx hb d_V_find_1 rfl hl (by decide) rfl (fun ls hl => ?_)
  have loop : ∀ (kk j : Nat) (ls : Array Slot), j + kk = n → vf g p1 kk j = vf g p1 n 0 → lv_has ls 3 [(0, .ref a), (1, .int p1), (2, .int (nI j))] → W p l e (headSpec (Cond.code y_V_find b_V_find 3 (some .int) :: TG) ({ frames := 0, cells := 0, slots := 0, locals := 0 })).room s m ([.ref a, .int p1] : List Value).toArray below meth c s.heap [] 0 0 (MQ below (QcRead (nI (vf g p1 n 0))) ([.ref a, .int p1] : List Value).toArray s 0 0 (fun _ => False)) (F0 m 2 ls []) := by
    intro kk
    induction kk with
    | zero =>
      intro j  ls hj hv hl
      refine lv_iload_n hx hb d_V_find_2 rfl (lv_at hl 2 rfl) ?_
      refine lv_aload_n hx hb d_V_find_3 rfl (lv_at hl 0 rfl) ?_
      refine va_get (D := G.1) (ci := 2) (v := .int (nI n)) (C := R_V) (T := F_V) (N := 3) hx hb ht in_V hown hK hP 0 rfl rfl 2 (by decide) (ht _ kf_V_19) (fun _ h9 => h9) rfl d_V_find_4 ?_
      refine lv_icmp_ge (tgt := 28) hx hb d_V_find_7 (by decide) (fun c1 => ?_) (fun c1 => ?_)
      · refine lv_aload_n hx hb d_V_find_28 rfl (lv_at hl 0 rfl) ?_
        refine va_get (D := G.1) (ci := 2) (v := .int (nI n)) (C := R_V) (T := F_V) (N := 3) hx hb ht in_V hown hK hP 0 rfl rfl 2 (by decide) (ht _ kf_V_19) (fun _ h9 => h9) rfl d_V_find_29 ?_
        exact W.iret (v := nI n) hx hb hr (fun t h9 _ => ⟨congrArg (fun z => Outcome.returned (some (Value.int z))) (by rw [← hv]; simp only [vf]; rw [show j = n by omega]), h9⟩) (fun _ h => nomatch h) d_V_find_32
      · exact absurd (show nI n ≤ nI j from nI_le (by omega) (by omega)) c1
    | succ kk ih =>
      intro j  ls hj hv hl
      refine lv_iload_n hx hb d_V_find_2 rfl (lv_at hl 2 rfl) ?_
      refine lv_aload_n hx hb d_V_find_3 rfl (lv_at hl 0 rfl) ?_
      refine va_get (D := G.1) (ci := 2) (v := .int (nI n)) (C := R_V) (T := F_V) (N := 3) hx hb ht in_V hown hK hP 0 rfl rfl 2 (by decide) (ht _ kf_V_19) (fun _ h9 => h9) rfl d_V_find_4 ?_
      refine lv_icmp_ge (tgt := 28) hx hb d_V_find_7 (by decide) (fun c2 => ?_) (fun c2 => ?_)
      · exact absurd c2 (nI_ge (show j < n by omega) (by omega))
      · refine lv_aload_n hx hb d_V_find_10 rfl (lv_at hl 0 rfl) ?_
        refine va_get (D := G.1) (ci := 2) (v := .ref b) (C := R_V) (T := F_V) (N := 3) hx hb ht in_V hown hK hP 0 rfl rfl 0 (by decide) (ht _ kf_V_9) (fun _ h9 => h9) rfl d_V_find_11 ?_
        refine lv_iload_n hx hb d_V_find_14 rfl (lv_at hl 2 rfl) ?_
        refine va_iald hx hb hK hP 1 1 rfl rfl (i := (nI j)) (vp_in_nI (show j < 100 by omega) (by omega)) d_V_find_15 ?_
        rw [nI_clamp (show j < 2 ^ 31 by omega)]
        refine lv_iload_n hx hb d_V_find_16 rfl (lv_at hl 1 rfl) ?_
        refine lv_icmp_ne (tgt := 22) hx hb d_V_find_17 (by decide) (fun c3 => ?_) (fun c3 => ?_)
        · refine lv_iinc (v := nI (j + 1)) (lv' := [(2, .int (nI (j + 1))), (0, .ref a), (1, .int p1)]) hx hb d_V_find_22 hl (k := 2) rfl (nI_1 j) (by decide) rfl (fun ls hl => ?_)
          refine lv_goto (tgt := 2) hx hb d_V_find_25 (by decide) ?_
          exact ih (j + 1) ls (by omega) (by rw [← hv]; simp only [vf]; rw [if_neg c3]) (lv_sub hl [1, 2, 0] rfl)
        · refine lv_iload_n hx hb d_V_find_20 rfl (lv_at hl 2 rfl) ?_
          exact W.iret (v := nI j) hx hb hr (fun t h9 _ => ⟨congrArg (fun z => Outcome.returned (some (Value.int z))) (by rw [← hv]; simp only [vf]; rw [if_pos c3]), h9⟩) (fun _ h => nomatch h) d_V_find_21
  exact loop n 0 ls (by omega) rfl (by exact lv_sub hl [1, 2, 0] rfl)
theorem vf_in {g : Nat → Int32} {x : Int32} {n : Nat} (hn : n ≤ 100) (c : ¬ nI n ≤ nI (vf g x n 0)) : vf g x n 0 < n := by
  have h := vf_le g x n 0
  exact Nat.lt_of_not_le (fun q => c (nI_le q (by omega)))
def fn_V_stayFor (g : Nat → Int32) (h : Nat → Int32) (n : Nat) (p1 : Int32) : Int32 := (if nI n ≤ (nI (vf g p1 n 0)) then 0 else (if (h (vf g p1 n 0)) = 0 then 0 else 1))
set_option maxHeartbeats 4000000 in
set_option maxRecDepth 100000 in
theorem c_V_stayFor (l : Launch) (G : GT) (H : Heap) (a : Nat) (b : Nat) (b3 : Nat) (g : Nat → Int32) (h : Nat → Int32) (n : Nat) (p1 : Int32) (hP : va_P G.1 classes [(a, .inr (2, [.ref b, .ref b3, .int (nI n)])), (b, .inl (G.2.2.1, 100, .inl g)), (b3, .inl (G.2.2.2, 100, .inl h))] H) (hn : n ≤ 100) : Met l y_V_stayFor (Cond.code y_V_stayFor b_V_stayFor 3 (some .boolean) :: TG) ({ frames := 1, cells := 0, slots := 0, locals := 22 }) (PC G H [.ref a, .int p1]) (QcRead (fn_V_stayFor g h n p1)) 0 0 (fun _ => False) := by
  refine Met.ofW (cc := b_V_stayFor) (maxL := 3) (ret := (some .boolean)) (by decide) rfl ?_
  intro p e s m args below meth c s₁ B hml hv
  obtain ⟨rfl, hH, hKN⟩ := hv
  subst hH
  have hx := B.exec
  have hb := B.bytes
  have hr := B.returns
  have hts := atoms_spec (ws := (Cond.code y_V_stayFor b_V_stayFor 3 (some .boolean) :: TG)) B.pre
  have ht : ∀ w ∈ TG, w.before _ s = true := fun w h => hts w (List.mem_cons_of_mem _ h)
  have hown : s.vm.findClass R_V = some m.cls := findClass_of_methodNamed B.named
  have hlocks := B.notSynchronized
  have hK := hKN.1
  have hl := lv_entry ([.ref a, .int p1]) (n := 3) (Nat.le_of_ble_eq_true rfl)
  rw [lg_entry_eq]
  generalize (lg_sl ([.ref a, .int p1]) ++ List.replicate (3 - (lg_sl ([.ref a, .int p1])).length) Slot.unset).toArray = ls at hl ⊢
  have hl : lv_has ls 3 [(0, .ref a), (1, .int p1)] := hl
  refine lv_aload_n hx hb d_V_stayFor_0 rfl (lv_at hl 0 rfl) ?_
  refine lv_iload_n hx hb d_V_stayFor_1 rfl (lv_at hl 1 rfl) ?_
  refine pr_i (ru_V (b := a) (As := [.int p1]) (rest := []) ⟨hx, hb, hml, hown, ht⟩ hKN (c_V_find l G _ a b b3 g h n p1 (hP.sub [0, 1, 2] rfl) hn) kc_V_23 ⟨rfl, rfl⟩ ⟨Nat.le_of_ble_eq_true rfl, Nat.le_of_ble_eq_true rfl⟩ (va_recv hK hP (ci := 2) (q0 := 0) rfl rfl) rfl hl.1 rfl (Nat.le_of_ble_eq_true rfl) d_V_stayFor_2 ⟨Nat.le_of_ble_eq_true rfl, Nat.le_of_ble_eq_true rfl⟩) ?_
  refine lv_istore_n (lv' := [(2, .int (nI (vf g p1 n 0))), (0, .ref a), (1, .int p1)]) hx hb d_V_stayFor_5 rfl hl (by decide) rfl (fun ls hl => ?_)
  refine lv_iload_n hx hb d_V_stayFor_6 rfl (lv_at hl 0 rfl) ?_
  refine lv_aload_n hx hb d_V_stayFor_7 rfl (lv_at hl 1 rfl) ?_
  refine va_get (D := G.1) (ci := 2) (v := .int (nI n)) (C := R_V) (T := F_V) (N := 3) hx hb ht in_V hown hK hP 0 rfl rfl 2 (by decide) (ht _ kf_V_19) (fun _ h9 => h9) rfl d_V_stayFor_8 ?_
  refine lv_icmp_ge (tgt := 27) hx hb d_V_stayFor_11 (by decide) (fun c1 => ?_) (fun c1 => ?_)
  · refine lv_iconst (v := 0) hx hb d_V_stayFor_27 (by decide) ?_
    exact W.zret (v := 0) hx hb hr rfl (fun t h9 _ => ⟨congrArg (fun z => Outcome.returned (some (Value.int z))) (by unfold fn_V_stayFor; rw [if_pos c1]), h9⟩) (fun _ h => nomatch h) d_V_stayFor_28
  · have hvi : vf g p1 n 0 < n := vf_in hn c1
    refine lv_aload_n hx hb d_V_stayFor_14 rfl (lv_at hl 1 rfl) ?_
    refine va_get (D := G.1) (ci := 2) (v := .ref b3) (C := R_V) (T := F_V) (N := 3) hx hb ht in_V hown hK hP 0 rfl rfl 1 (by decide) (ht _ kf_V_15) (fun _ h9 => h9) rfl d_V_stayFor_15 ?_
    refine lv_iload_n hx hb d_V_stayFor_18 rfl (lv_at hl 0 rfl) ?_
    refine va_zald hx hb hK hP 2 2 rfl rfl (i := (nI (vf g p1 n 0))) (vp_in_nI (show (vf g p1 n 0) < 100 by omega) (by omega)) d_V_stayFor_19 ?_
    rw [nI_clamp (show (vf g p1 n 0) < 2 ^ 31 by omega)]
    refine lv_if_eq (tgt := 27) hx hb d_V_stayFor_20 (by decide) (fun c2 => ?_) (fun c2 => ?_)
    · refine lv_iconst (v := 0) hx hb d_V_stayFor_27 (by decide) ?_
      exact W.zret (v := 0) hx hb hr rfl (fun t h9 _ => ⟨congrArg (fun z => Outcome.returned (some (Value.int z))) (by unfold fn_V_stayFor; rw [if_neg c1, if_pos c2]), h9⟩) (fun _ h => nomatch h) d_V_stayFor_28
    · refine lv_iconst (v := 1) hx hb d_V_stayFor_23 (by decide) ?_
      refine lv_goto (tgt := 28) hx hb d_V_stayFor_24 (by decide) ?_
      exact W.zret (v := 1) hx hb hr rfl (fun t h9 _ => ⟨congrArg (fun z => Outcome.returned (some (Value.int z))) (by unfold fn_V_stayFor; rw [if_neg c1, if_neg c2]), h9⟩) (fun _ h => nomatch h) d_V_stayFor_28
