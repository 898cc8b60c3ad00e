def po (g : Nat → Int32) (x : Int32) : Nat → Int32
  | 0 => -1
  | j + 1 => if g j = x then nI j else po g x j
theorem po_or (g : Nat → Int32) (x : Int32) : ∀ q, po g x q = -1 ∨ ∃ j, j < q ∧ po g x q = nI j ∧ g j = x
  | 0 => Or.inl rfl
  | q + 1 => by
    unfold po
    split
    · rename_i h
      exact Or.inr ⟨q, by omega, rfl, h⟩
    · rcases po_or g x q with h | ⟨j, h1, h2, h3⟩
      · exact Or.inl h
      · exact Or.inr ⟨j, by omega, h2, h3⟩
theorem po_in {g : Nat → Int32} {x : Int32} {q : Nat} (hq : q ≤ 100) (h : ¬ po g x q = -1) : vp_in (po g x q) 100 := by
  rcases po_or g x q with h1 | ⟨j, h1, h2, -⟩
  · exact absurd h1 h
  · rw [h2]
    exact vp_in_nI (by omega) (by omega)
set_option maxHeartbeats 4000000 in
set_option maxRecDepth 100000 in
theorem c_M_placeOf (l : Launch) (G : GT) (H : Heap) (a : Nat) (w1 : Nat) (w2 : Nat) (w3 : Nat) (ns : Int64) (sd : Int64) (n : Nat) (k : Int32) (lb : Int32) (q : Nat) (g : Nat → Int32) (h : Nat → Int32) (ik : Nat → Int32) (p1 : Int32) (hP : va_P G.1 classes [(a, .inr (3, [.int 0, .long ns, .long sd, .int (nI n), .int k, .int lb, .int (nI q), .ref w1, .ref w2, .ref w3])), (w1, .inl (G.2.2.1, 100, .inl g)), (w2, .inl (G.2.2.2, 100, .inl h)), (w3, .inl (G.2.2.1, 10, .inl ik))] H) (hn : n ≤ 16) (hq : q ≤ 100) : Met l y_M_placeOf (Cond.code y_M_placeOf b_M_placeOf 4 (some .int) :: TG) ({ frames := 0, cells := 0, slots := 0, locals := 0 }) (PC G H [.ref a, .int p1]) (QcRead (po g p1 q)) 0 0 (fun _ => False) := by
  refine Met.ofW (cc := b_M_placeOf) (maxL := 4) (ret := (some .int)) (by decide) rfl ?_
  intro p e s m args below meth c s₁ B hml hv
  obtain ⟨rfl, hH, hKN⟩ := hv
  subst hH
  have hx := B.exec
  have hb := B.bytes
  have hr := B.returns
  have hts := atoms_spec (ws := (Cond.code y_M_placeOf b_M_placeOf 4 (some .int) :: TG)) B.pre
  have ht : ∀ w ∈ TG, w.before _ s = true := fun w h => hts w (List.mem_cons_of_mem _ h)
  have hown : s.vm.findClass R_M = some m.cls := findClass_of_methodNamed B.named
  have hlocks := B.notSynchronized
  have hK := hKN.1
  have hl := lv_entry ([.ref a, .int p1]) (n := 4) (Nat.le_of_ble_eq_true rfl)
  rw [lg_entry_eq]
  generalize (lg_sl ([.ref a, .int p1]) ++ List.replicate (4 - (lg_sl ([.ref a, .int p1])).length) Slot.unset).toArray = ls at hl ⊢
  have hl : lv_has ls 4 [(0, .ref a), (1, .int p1)] := hl
  refine lv_iconst (v := (-1)) hx hb d_M_placeOf_0 (by decide) ?_
  refine lv_istore_n (lv' := [(2, .int (-1)), (0, .ref a), (1, .int p1)]) hx hb d_M_placeOf_1 rfl hl (by decide) rfl (fun ls hl => ?_)
  refine lv_iconst (v := 0) hx hb d_M_placeOf_2 (by decide) ?_
  refine lv_istore_n (lv' := [(3, .int 0), (2, .int (-1)), (0, .ref a), (1, .int p1)]) hx hb d_M_placeOf_3 rfl hl (by decide) rfl (fun ls hl => ?_)
  have loop : ∀ (kk j : Nat) (ls : Array Slot), j + kk = q → lv_has ls 4 [(0, .ref a), (1, .int p1), (2, .int (po g p1 j)), (3, .int (nI j))] → W p l e (headSpec (Cond.code y_M_placeOf b_M_placeOf 4 (some .int) :: TG) ({ frames := 0, cells := 0, slots := 0, locals := 0 })).room s m ([.ref a, .int p1] : List Value).toArray below meth c s.heap [] 0 0 (MQ below (QcRead (po g p1 q)) ([.ref a, .int p1] : List Value).toArray s 0 0 (fun _ => False)) (F0 m 4 ls []) := by
    intro kk
    induction kk with
    | zero =>
      intro j  ls hj  hl
      refine lv_iload_n hx hb d_M_placeOf_4 rfl (lv_at hl 3 rfl) ?_
      refine lv_aload_n hx hb d_M_placeOf_5 rfl (lv_at hl 0 rfl) ?_
      refine va_get (D := G.1) (ci := 3) (v := .int (nI q)) (C := R_M) (T := F_M) (N := 10) hx hb ht in_M hown hK hP 0 rfl rfl 6 (by decide) (ht _ kf_M_68) (fun _ h9 => h9) rfl d_M_placeOf_6 ?_
      refine lv_icmp_ge (tgt := 34) hx hb d_M_placeOf_9 (by decide) (fun c1 => ?_) (fun c1 => ?_)
      · refine lv_iload_n hx hb d_M_placeOf_34 rfl (lv_at hl 2 rfl) ?_
        exact W.iret (v := po g p1 j) hx hb hr (fun t h9 _ => ⟨congrArg (fun z => Outcome.returned (some (Value.int z))) (by rw [show j = q by omega]), h9⟩) (fun _ h => nomatch h) d_M_placeOf_35
      · exact absurd (show nI q ≤ nI j from nI_le (by omega) (by omega)) c1
    | succ kk ih =>
      intro j  ls hj  hl
      refine lv_iload_n hx hb d_M_placeOf_4 rfl (lv_at hl 3 rfl) ?_
      refine lv_aload_n hx hb d_M_placeOf_5 rfl (lv_at hl 0 rfl) ?_
      refine va_get (D := G.1) (ci := 3) (v := .int (nI q)) (C := R_M) (T := F_M) (N := 10) hx hb ht in_M hown hK hP 0 rfl rfl 6 (by decide) (ht _ kf_M_68) (fun _ h9 => h9) rfl d_M_placeOf_6 ?_
      refine lv_icmp_ge (tgt := 34) hx hb d_M_placeOf_9 (by decide) (fun c2 => ?_) (fun c2 => ?_)
      · exact absurd c2 (nI_ge (show j < q by omega) (by omega))
      · refine lv_aload_n hx hb d_M_placeOf_12 rfl (lv_at hl 0 rfl) ?_
        refine va_get (D := G.1) (ci := 3) (v := .ref w1) (C := R_M) (T := F_M) (N := 10) hx hb ht in_M hown hK hP 0 rfl rfl 7 (by decide) (ht _ kf_M_7) (fun _ h9 => h9) rfl d_M_placeOf_13 ?_
        refine lv_iload_n hx hb d_M_placeOf_16 rfl (lv_at hl 3 rfl) ?_
        refine va_iald hx hb hK hP 1 1 rfl rfl (i := (nI j)) (vp_in_nI (show j < 100 by omega) (by omega)) d_M_placeOf_17 ?_
        rw [nI_clamp (show j < 2 ^ 31 by omega)]
        refine lv_iload_n hx hb d_M_placeOf_18 rfl (lv_at hl 1 rfl) ?_
        refine lv_icmp_ne (tgt := 26) hx hb d_M_placeOf_19 (by decide) (fun c3 => ?_) (fun c3 => ?_)
        · refine lv_iload_n hx hb d_M_placeOf_26 rfl (lv_at hl 2 rfl) ?_
          refine lv_istore_n (lv' := [(2, .int (po g p1 j)), (0, .ref a), (1, .int p1), (3, .int (nI j))]) hx hb d_M_placeOf_27 rfl hl (by decide) rfl (fun ls hl => ?_)
          refine lv_iinc (v := nI (j + 1)) (lv' := [(3, .int (nI (j + 1))), (2, .int (po g p1 j)), (0, .ref a), (1, .int p1)]) hx hb d_M_placeOf_28 hl (k := 3) rfl (nI_1 j) (by decide) rfl (fun ls hl => ?_)
          refine lv_goto (tgt := 4) hx hb d_M_placeOf_31 (by decide) ?_
          exact ih (j + 1) ls (by omega) (by rw [show po g p1 (j + 1) = po g p1 j from by simp only [po]; rw [if_neg c3]]; exact lv_sub hl [2, 3, 1, 0] rfl)
        · refine lv_iload_n hx hb d_M_placeOf_22 rfl (lv_at hl 3 rfl) ?_
          refine lv_goto (tgt := 27) hx hb d_M_placeOf_23 (by decide) ?_
          refine lv_istore_n (lv' := [(2, .int (nI j)), (0, .ref a), (1, .int p1), (3, .int (nI j))]) hx hb d_M_placeOf_27 rfl hl (by decide) rfl (fun ls hl => ?_)
          refine lv_iinc (v := nI (j + 1)) (lv' := [(3, .int (nI (j + 1))), (2, .int (nI j)), (0, .ref a), (1, .int p1)]) hx hb d_M_placeOf_28 hl (k := 3) rfl (nI_1 j) (by decide) rfl (fun ls hl => ?_)
          refine lv_goto (tgt := 4) hx hb d_M_placeOf_31 (by decide) ?_
          exact ih (j + 1) ls (by omega) (by rw [show po g p1 (j + 1) = nI j from by simp only [po]; rw [if_pos c3]]; exact lv_sub hl [2, 3, 1, 0] rfl)
  exact loop q 0 ls (by omega) (by exact lv_sub hl [2, 3, 1, 0] rfl)
def fn_M_stays (q : Nat) (g : Nat → Int32) (h : Nat → Int32) (p1 : Int32) : Int32 := (if (po g p1 q) = (-1) then 0 else (if (h (po g p1 q).toNatClampNeg) = 0 then 0 else 1))
set_option maxHeartbeats 4000000 in
set_option maxRecDepth 100000 in
theorem c_M_stays (l : Launch) (G : GT) (H : Heap) (a : Nat) (w1 : Nat) (w2 : Nat) (w3 : Nat) (ns : Int64) (sd : Int64) (n : Nat) (k : Int32) (lb : Int32) (q : Nat) (g : Nat → Int32) (h : Nat → Int32) (ik : Nat → Int32) (p1 : Int32) (hP : va_P G.1 classes [(a, .inr (3, [.int 0, .long ns, .long sd, .int (nI n), .int k, .int lb, .int (nI q), .ref w1, .ref w2, .ref w3])), (w1, .inl (G.2.2.1, 100, .inl g)), (w2, .inl (G.2.2.2, 100, .inl h)), (w3, .inl (G.2.2.1, 10, .inl ik))] H) (hn : n ≤ 16) (hq : q ≤ 100) : Met l y_M_stays (Cond.code y_M_stays b_M_stays 3 (some .boolean) :: TG) ({ frames := 1, cells := 0, slots := 0, locals := 23 }) (PC G H [.ref a, .int p1]) (QcRead (fn_M_stays q g h p1)) 0 0 (fun _ => False) := by
  refine Met.ofW (cc := b_M_stays) (maxL := 3) (ret := (some .boolean)) (by decide) rfl ?_
  intro p e s m args below meth c s₁ B hml hv
  obtain ⟨rfl, hH, hKN⟩ := hv
  subst hH
  have hx := B.exec
  have hb := B.bytes
  have hr := B.returns
  have hts := atoms_spec (ws := (Cond.code y_M_stays b_M_stays 3 (some .boolean) :: TG)) B.pre
  have ht : ∀ w ∈ TG, w.before _ s = true := fun w h => hts w (List.mem_cons_of_mem _ h)
  have hown : s.vm.findClass R_M = some m.cls := findClass_of_methodNamed B.named
  have hlocks := B.notSynchronized
  have hK := hKN.1
  have hl := lv_entry ([.ref a, .int p1]) (n := 3) (Nat.le_of_ble_eq_true rfl)
  rw [lg_entry_eq]
  generalize (lg_sl ([.ref a, .int p1]) ++ List.replicate (3 - (lg_sl ([.ref a, .int p1])).length) Slot.unset).toArray = ls at hl ⊢
  have hl : lv_has ls 3 [(0, .ref a), (1, .int p1)] := hl
  refine lv_aload_n hx hb d_M_stays_0 rfl (lv_at hl 0 rfl) ?_
  refine lv_iload_n hx hb d_M_stays_1 rfl (lv_at hl 1 rfl) ?_
  refine pr_i (ru_V (b := a) (As := [.int p1]) (rest := []) ⟨hx, hb, hml, hown, ht⟩ hKN (c_M_placeOf l G _ a w1 w2 w3 ns sd n k lb q g h ik p1 (hP.sub [0, 1, 2, 3] rfl) hn hq) kc_M_78 ⟨rfl, rfl⟩ ⟨Nat.le_of_ble_eq_true rfl, Nat.le_of_ble_eq_true rfl⟩ (va_recv hK hP (ci := 3) (q0 := 0) rfl rfl) rfl hl.1 rfl (Nat.le_of_ble_eq_true rfl) d_M_stays_2 ⟨Nat.le_of_ble_eq_true rfl, Nat.le_of_ble_eq_true rfl⟩) ?_
  refine lv_istore_n (lv' := [(2, .int (po g p1 q)), (0, .ref a), (1, .int p1)]) hx hb d_M_stays_5 rfl hl (by decide) rfl (fun ls hl => ?_)
  refine lv_iload_n hx hb d_M_stays_6 rfl (lv_at hl 0 rfl) ?_
  refine lv_iconst (v := (-1)) hx hb d_M_stays_7 (by decide) ?_
  refine lv_icmp_eq (tgt := 24) hx hb d_M_stays_8 (by decide) (fun c1 => ?_) (fun c1 => ?_)
  · refine lv_iconst (v := 0) hx hb d_M_stays_24 (by decide) ?_
    exact W.zret (v := 0) hx hb hr rfl (fun t h9 _ => ⟨congrArg (fun z => Outcome.returned (some (Value.int z))) (by unfold fn_M_stays; rw [if_pos c1]), h9⟩) (fun _ h => nomatch h) d_M_stays_25
  · refine lv_aload_n hx hb d_M_stays_11 rfl (lv_at hl 1 rfl) ?_
    refine va_get (D := G.1) (ci := 3) (v := .ref w2) (C := R_M) (T := F_M) (N := 10) hx hb ht in_M hown hK hP 0 rfl rfl 8 (by decide) (ht _ kf_M_13) (fun _ h9 => h9) rfl d_M_stays_12 ?_
    refine lv_iload_n hx hb d_M_stays_15 rfl (lv_at hl 0 rfl) ?_
    refine va_zald hx hb hK hP 2 2 rfl rfl (i := (po g p1 q)) (po_in hq c1) d_M_stays_16 ?_
    refine lv_if_eq (tgt := 24) hx hb d_M_stays_17 (by decide) (fun c2 => ?_) (fun c2 => ?_)
    · refine lv_iconst (v := 0) hx hb d_M_stays_24 (by decide) ?_
      exact W.zret (v := 0) hx hb hr rfl (fun t h9 _ => ⟨congrArg (fun z => Outcome.returned (some (Value.int z))) (by unfold fn_M_stays; rw [if_neg c1, if_pos c2]), h9⟩) (fun _ h => nomatch h) d_M_stays_25
    · refine lv_iconst (v := 1) hx hb d_M_stays_20 (by decide) ?_
      refine lv_goto (tgt := 25) hx hb d_M_stays_21 (by decide) ?_
      exact W.zret (v := 1) hx hb hr rfl (fun t h9 _ => ⟨congrArg (fun z => Outcome.returned (some (Value.int z))) (by unfold fn_M_stays; rw [if_neg c1, if_neg c2]), h9⟩) (fun _ h => nomatch h) d_M_stays_25
def wo (g h : Nat → Int32) (q : Nat) (b : Int32) : Nat → Nat → Int32
  | 0, _ => -1
  | kk + 1, j => if ((b >>> (nI j &&& 31)) &&& 1) = 1 then (if b = (1 : Int32) <<< (nI j &&& 31) then wo g h q b kk (j + 1) else (if fn_M_stays q g h (b - ((1 : Int32) <<< (nI j &&& 31))) = 0 then wo g h q b kk (j + 1) else nI j)) else wo g h q b kk (j + 1)
set_option maxHeartbeats 4000000 in
set_option maxRecDepth 100000 in
theorem c_M_without (l : Launch) (G : GT) (H : Heap) (a : Nat) (w1 : Nat) (w2 : Nat) (w3 : Nat) (ns : Int64) (sd : Int64) (n : Nat) (k : Int32) (lb : Int32) (q : Nat) (g : Nat → Int32) (h : Nat → Int32) (ik : Nat → Int32) (p1 : Int32) (p2 : Nat) (hP : va_P G.1 classes [(a, .inr (3, [.int 0, .long ns, .long sd, .int (nI n), .int k, .int lb, .int (nI q), .ref w1, .ref w2, .ref w3])), (w1, .inl (G.2.2.1, 100, .inl g)), (w2, .inl (G.2.2.2, 100, .inl h)), (w3, .inl (G.2.2.1, 10, .inl ik))] H) (hn : n ≤ 16) (hq : q ≤ 100) (hp2 : p2 ≤ n) : Met l y_M_without (Cond.code y_M_without b_M_without 5 (some .int) :: TG) ({ frames := 2, cells := 0, slots := 0, locals := 45 }) (PC G H [.ref a, .int p1, .int (nI p2)]) (QcRead (wo g h q p1 (n - p2) p2)) 0 0 (fun _ => False) := by
  refine Met.ofW (cc := b_M_without) (maxL := 5) (ret := (some .int)) (by decide) rfl ?_
  intro p e s m args below meth c s₁ B hml hv
  obtain ⟨rfl, hH, hKN⟩ := hv
  subst hH
  have hx := B.exec
  have hb := B.bytes
  have hr := B.returns
  have hts := atoms_spec (ws := (Cond.code y_M_without b_M_without 5 (some .int) :: TG)) B.pre
  have ht : ∀ w ∈ TG, w.before _ s = true := fun w h => hts w (List.mem_cons_of_mem _ h)
  have hown : s.vm.findClass R_M = some m.cls := findClass_of_methodNamed B.named
  have hlocks := B.notSynchronized
  have hK := hKN.1
  have hl := lv_entry ([.ref a, .int p1, .int (nI p2)]) (n := 5) (Nat.le_of_ble_eq_true rfl)
  rw [lg_entry_eq]
  generalize (lg_sl ([.ref a, .int p1, .int (nI p2)]) ++ List.replicate (5 - (lg_sl ([.ref a, .int p1, .int (nI p2)])).length) Slot.unset).toArray = ls at hl ⊢
  have hl : lv_has ls 5 [(0, .ref a), (1, .int p1), (2, .int (nI p2))] := hl
  refine lv_iload_n hx hb d_M_without_0 rfl (lv_at hl 2 rfl) ?_
  refine lv_istore_n (lv' := [(3, .int (nI p2)), (0, .ref a), (1, .int p1), (2, .int (nI p2))]) hx hb d_M_without_1 rfl hl (by decide) rfl (fun ls hl => ?_)
  have loop : ∀ (kk j : Nat) (ls : Array Slot), j + kk = n → wo g h q p1 kk j = wo g h q p1 (n - p2) p2 → lv_has ls 5 [(0, .ref a), (1, .int p1), (3, .int (nI j))] → W p l e (headSpec (Cond.code y_M_without b_M_without 5 (some .int) :: TG) ({ frames := 2, cells := 0, slots := 0, locals := 45 })).room s m ([.ref a, .int p1, .int (nI p2)] : List Value).toArray below meth c s.heap [] 0 0 (MQ below (QcRead (wo g h q p1 (n - p2) p2)) ([.ref a, .int p1, .int (nI p2)] : List Value).toArray s 0 0 (fun _ => False)) (F0 m 2 ls []) := by
    intro kk
    induction kk with
    | zero =>
      intro j  ls hj hv hl
      refine lv_iload_n hx hb d_M_without_2 rfl (lv_at hl 2 rfl) ?_
      refine lv_aload_n hx hb d_M_without_3 rfl (lv_at hl 0 rfl) ?_
      refine va_get (D := G.1) (ci := 3) (v := .int (nI n)) (C := R_M) (T := F_M) (N := 10) hx hb ht in_M hown hK hP 0 rfl rfl 3 (by decide) (ht _ kf_M_62) (fun _ h9 => h9) rfl d_M_without_4 ?_
      refine lv_icmp_ge (tgt := 58) hx hb d_M_without_7 (by decide) (fun c1 => ?_) (fun c1 => ?_)
      · refine lv_iconst (v := (-1)) hx hb d_M_without_58 (by decide) ?_
        exact W.iret (v := (-1)) hx hb hr (fun t h9 _ => ⟨congrArg (fun z => Outcome.returned (some (Value.int z))) (by rw [← hv]; simp only [wo]), h9⟩) (fun _ h => nomatch h) d_M_without_59
      · exact absurd (show nI n ≤ nI j from nI_le (by omega) (by omega)) c1
    | succ kk ih =>
      intro j  ls hj hv hl
      refine lv_iload_n hx hb d_M_without_2 rfl (lv_at hl 2 rfl) ?_
      refine lv_aload_n hx hb d_M_without_3 rfl (lv_at hl 0 rfl) ?_
      refine va_get (D := G.1) (ci := 3) (v := .int (nI n)) (C := R_M) (T := F_M) (N := 10) hx hb ht in_M hown hK hP 0 rfl rfl 3 (by decide) (ht _ kf_M_62) (fun _ h9 => h9) rfl d_M_without_4 ?_
      refine lv_icmp_ge (tgt := 58) hx hb d_M_without_7 (by decide) (fun c2 => ?_) (fun c2 => ?_)
      · exact absurd c2 (nI_ge (show j < n by omega) (by omega))
      · refine lv_iload_n hx hb d_M_without_10 rfl (lv_at hl 1 rfl) ?_
        refine lv_iload_n hx hb d_M_without_11 rfl (lv_at hl 2 rfl) ?_
        refine lv_ishr hx hb d_M_without_12 ?_
        refine lv_iconst (v := 1) hx hb d_M_without_13 (by decide) ?_
        refine lv_iand hx hb d_M_without_14 ?_
        refine lv_iconst (v := 1) hx hb d_M_without_15 (by decide) ?_
        refine lv_icmp_ne (tgt := 23) hx hb d_M_without_16 (by decide) (fun c3 => ?_) (fun c3 => ?_)
        · refine lv_iconst (v := 0) hx hb d_M_without_23 (by decide) ?_
          refine lv_istore (lv' := [(4, .int 0), (0, .ref a), (1, .int p1), (3, .int (nI j))]) hx hb d_M_without_24 hl (by decide) rfl (fun ls hl => ?_)
          refine lv_iload hx hb d_M_without_26 (lv_at hl 0 rfl) ?_
          refine lv_if_eq (tgt := 52) hx hb d_M_without_28 (by decide) (fun _ => ?_) (fun c4 => absurd (by decide) c4)
          refine lv_iinc (v := nI (j + 1)) (lv' := [(3, .int (nI (j + 1))), (4, .int 0), (0, .ref a), (1, .int p1)]) hx hb d_M_without_52 hl (k := 3) rfl (nI_1 j) (by decide) rfl (fun ls hl => ?_)
          refine lv_goto (tgt := 2) hx hb d_M_without_55 (by decide) ?_
          exact ih (j + 1) ls (by omega) (by rw [← hv]; simp only [wo]; rw [if_neg c3]) (lv_sub hl [2, 3, 0] rfl)
        · refine lv_iconst (v := 1) hx hb d_M_without_19 (by decide) ?_
          refine lv_goto (tgt := 24) hx hb d_M_without_20 (by decide) ?_
          refine lv_istore (lv' := [(4, .int 1), (0, .ref a), (1, .int p1), (3, .int (nI j))]) hx hb d_M_without_24 hl (by decide) rfl (fun ls hl => ?_)
          refine lv_iload hx hb d_M_without_26 (lv_at hl 0 rfl) ?_
          refine lv_if_eq (tgt := 52) hx hb d_M_without_28 (by decide) (fun c5 => absurd c5 (by decide)) (fun _ => ?_)
          refine lv_iload_n hx hb d_M_without_31 rfl (lv_at hl 2 rfl) ?_
          refine lv_iconst (v := 1) hx hb d_M_without_32 (by decide) ?_
          refine lv_iload_n hx hb d_M_without_33 rfl (lv_at hl 3 rfl) ?_
          refine lv_ishl hx hb d_M_without_34 ?_
          refine lv_icmp_eq (tgt := 52) hx hb d_M_without_35 (by decide) (fun c6 => ?_) (fun c6 => ?_)
          · refine lv_iinc (v := nI (j + 1)) (lv' := [(3, .int (nI (j + 1))), (4, .int 1), (0, .ref a), (1, .int p1)]) hx hb d_M_without_52 hl (k := 3) rfl (nI_1 j) (by decide) rfl (fun ls hl => ?_)
            refine lv_goto (tgt := 2) hx hb d_M_without_55 (by decide) ?_
            exact ih (j + 1) ls (by omega) (by rw [← hv]; simp only [wo]; rw [if_pos c3, if_pos c6]) (lv_sub hl [2, 3, 0] rfl)
          · refine lv_aload_n hx hb d_M_without_38 rfl (lv_at hl 1 rfl) ?_
            refine lv_iload_n hx hb d_M_without_39 rfl (lv_at hl 2 rfl) ?_
            refine lv_iconst (v := 1) hx hb d_M_without_40 (by decide) ?_
            refine lv_iload_n hx hb d_M_without_41 rfl (lv_at hl 3 rfl) ?_
            refine lv_ishl hx hb d_M_without_42 ?_
            refine lv_isub hx hb d_M_without_43 ?_
            refine pr_i (ru_V (b := a) (As := [.int (p1 - ((1 : Int32) <<< ((nI j) &&& 31)))]) (rest := []) ⟨hx, hb, hml, hown, ht⟩ hKN (c_M_stays l G _ a w1 w2 w3 ns sd n k lb q g h ik (p1 - ((1 : Int32) <<< ((nI j) &&& 31))) (hP.sub [0, 1, 2, 3] rfl) hn hq) kc_M_82 ⟨rfl, rfl⟩ ⟨Nat.le_of_ble_eq_true rfl, Nat.le_of_ble_eq_true rfl⟩ (va_recv hK hP (ci := 3) (q0 := 0) rfl rfl) rfl hl.1 rfl (Nat.le_of_ble_eq_true rfl) d_M_without_44 ⟨Nat.le_of_ble_eq_true rfl, Nat.le_of_ble_eq_true rfl⟩) ?_
            refine lv_if_eq (tgt := 52) hx hb d_M_without_47 (by decide) (fun c7 => ?_) (fun c7 => ?_)
            · refine lv_iinc (v := nI (j + 1)) (lv' := [(3, .int (nI (j + 1))), (4, .int 1), (0, .ref a), (1, .int p1)]) hx hb d_M_without_52 hl (k := 3) rfl (nI_1 j) (by decide) rfl (fun ls hl => ?_)
              refine lv_goto (tgt := 2) hx hb d_M_without_55 (by decide) ?_
              exact ih (j + 1) ls (by omega) (by rw [← hv]; simp only [wo]; rw [if_pos c3, if_neg c6, if_pos c7]) (lv_sub hl [2, 3, 0] rfl)
            · refine lv_iload_n hx hb d_M_without_50 rfl (lv_at hl 3 rfl) ?_
              exact W.iret (v := nI j) hx hb hr (fun t h9 _ => ⟨congrArg (fun z => Outcome.returned (some (Value.int z))) (by rw [← hv]; simp only [wo]; rw [if_pos c3, if_neg c6, if_neg c7]), h9⟩) (fun _ h => nomatch h) d_M_without_51
  exact loop (n - p2) p2 ls (by omega) rfl (by exact lv_sub hl [1, 2, 0] rfl)
