def fn_M_in (p1 : Int32) (p2 : Int32) (p3 : Int32) : Int32 := (if p1 < p2 then 0 else (if p3 < p1 then 0 else 1))
set_option maxHeartbeats 4000000 in
set_option maxRecDepth 100000 in
theorem c_M_in (l : Launch) (G : GT) (H : Heap) (p1 : Int32) (p2 : Int32) (p3 : Int32) : Met l y_M_in (Cond.code y_M_in b_M_in 3 (some .boolean) :: TG) ({ frames := 0, cells := 0, slots := 0, locals := 0 }) (PC G H [.int p1, .int p2, .int p3]) (QcRead (fn_M_in p1 p2 p3)) 0 0 (fun _ => False) := by
  refine Met.ofW (cc := b_M_in) (maxL := 3) (ret := (some .boolean)) (by decide) rfl ?_
  intro p e s m args below meth c s₁ B hml hv
  obtain ⟨rfl, hH, hKN⟩ := hv
  subst hH
  have hx := B.exec
  have hb := B.bytes
  have hr := B.returns
  have hts := atoms_spec (ws := (Cond.code y_M_in b_M_in 3 (some .boolean) :: TG)) B.pre
  have ht : ∀ w ∈ TG, w.before _ s = true := fun w h => hts w (List.mem_cons_of_mem _ h)
  have hown : s.vm.findClass R_M = some m.cls := findClass_of_methodNamed B.named
  have hlocks := B.notSynchronized
  have hK := hKN.1
  have hl := lv_entry ([.int p1, .int p2, .int p3]) (n := 3) (Nat.le_of_ble_eq_true rfl)
  rw [lg_entry_eq]
  generalize (lg_sl ([.int p1, .int p2, .int p3]) ++ List.replicate (3 - (lg_sl ([.int p1, .int p2, .int p3])).length) Slot.unset).toArray = ls at hl ⊢
  have hl : lv_has ls 3 [(0, .int p1), (1, .int p2), (2, .int p3)] := hl
  refine lv_iload_n hx hb d_M_in_0 rfl (lv_at hl 0 rfl) ?_
  refine lv_iload_n hx hb d_M_in_1 rfl (lv_at hl 1 rfl) ?_
  refine lv_icmp_lt (tgt := 14) hx hb d_M_in_2 (by decide) (fun c1 => ?_) (fun c1 => ?_)
  · refine lv_iconst (v := 0) hx hb d_M_in_14 (by decide) ?_
    exact W.zret (v := 0) hx hb hr rfl (fun t h9 _ => ⟨congrArg (fun z => Outcome.returned (some (Value.int z))) (by unfold fn_M_in; rw [if_pos c1]), h9⟩) (fun _ h => nomatch h) d_M_in_15
  · refine lv_iload_n hx hb d_M_in_5 rfl (lv_at hl 0 rfl) ?_
    refine lv_iload_n hx hb d_M_in_6 rfl (lv_at hl 2 rfl) ?_
    refine lv_icmp_gt (tgt := 14) hx hb d_M_in_7 (by decide) (fun c2 => ?_) (fun c2 => ?_)
    · refine lv_iconst (v := 0) hx hb d_M_in_14 (by decide) ?_
      exact W.zret (v := 0) hx hb hr rfl (fun t h9 _ => ⟨congrArg (fun z => Outcome.returned (some (Value.int z))) (by unfold fn_M_in; rw [if_neg c1, if_pos c2]), h9⟩) (fun _ h => nomatch h) d_M_in_15
    · refine lv_iconst (v := 1) hx hb d_M_in_10 (by decide) ?_
      refine lv_goto (tgt := 15) hx hb d_M_in_11 (by decide) ?_
      exact W.zret (v := 1) hx hb hr rfl (fun t h9 _ => ⟨congrArg (fun z => Outcome.returned (some (Value.int z))) (by unfold fn_M_in; rw [if_neg c1, if_neg c2]), h9⟩) (fun _ h => nomatch h) d_M_in_15
set_option maxHeartbeats 4000000 in
set_option maxRecDepth 100000 in
theorem c_M_number (l : Launch) (G : GT) (H : Heap) (sd : Int64) (k : Int32) (i : Int32) : Met l y_M_number (Cond.code y_M_number b_M_number 6 (some .long) :: TG) ({ frames := 0, cells := 0, slots := 0, locals := 0 }) (PC G H [.long sd, .int k, .int i]) (QcReadL (zN sd k i)) 0 0 (fun _ => False) := by
  refine Met.ofW (cc := b_M_number) (maxL := 6) (ret := (some .long)) (by decide) rfl ?_
  intro p e s m args below meth c s₁ B hml hv
  obtain ⟨rfl, hH, hKN⟩ := hv
  subst hH
  have hx := B.exec
  have hb := B.bytes
  have hr := B.returns
  have hts := atoms_spec (ws := (Cond.code y_M_number b_M_number 6 (some .long) :: TG)) B.pre
  have ht : ∀ w ∈ TG, w.before _ s = true := fun w h => hts w (List.mem_cons_of_mem _ h)
  have hown : s.vm.findClass R_M = some m.cls := findClass_of_methodNamed B.named
  have hlocks := B.notSynchronized
  have hK := hKN.1
  have hl := lv_entry ([.long sd, .int k, .int i]) (n := 6) (Nat.le_of_ble_eq_true rfl)
  rw [lg_entry_eq]
  generalize (lg_sl ([.long sd, .int k, .int i]) ++ List.replicate (6 - (lg_sl ([.long sd, .int k, .int i])).length) Slot.unset).toArray = ls at hl ⊢
  have hl : lv_has ls 6 [(0, .long sd), (2, .int k), (3, .int i)] := hl
  refine lv_lload_n hx hb d_M_number_0 rfl (lv_at hl 0 rfl) ?_
  refine lv_lconst (v := 1) hx hb d_M_number_1 (by decide) ?_
  refine lv_iload_n hx hb d_M_number_2 rfl (lv_at hl 2 rfl) ?_
  refine lv_i2l hx hb d_M_number_3 rfl ?_
  refine lv_ladd hx hb d_M_number_4 ?_
  refine lv_ldc2 (v := 64) hx hb hown (ht _ kl_M_28) d_M_number_5 ?_
  refine lv_iload_n hx hb d_M_number_8 rfl (lv_at hl 1 rfl) ?_
  refine lv_i2l hx hb d_M_number_9 rfl ?_
  refine lv_lmul hx hb d_M_number_10 ?_
  refine lv_ladd hx hb d_M_number_11 ?_
  refine lv_ldc2 (v := (-7046029254386353131)) hx hb hown (ht _ kl_M_30) d_M_number_12 ?_
  refine lv_lmul hx hb d_M_number_15 ?_
  refine lv_ladd hx hb d_M_number_16 ?_
  refine lv_topl (fun v1 e1 => ?_)
  refine lv_lstore (lv' := [(4, .long v1), (0, .long sd), (2, .int k), (3, .int i)]) hx hb d_M_number_17 hl (by decide) rfl (fun ls hl => ?_)
  refine lv_lload hx hb d_M_number_19 (lv_at hl 0 rfl) ?_
  refine lv_lload hx hb d_M_number_21 (lv_at hl 0 rfl) ?_
  refine lv_bipush (v := 30) hx hb d_M_number_23 (by decide) ?_
  refine lv_lushr hx hb d_M_number_25 rfl ?_
  refine lv_lxor hx hb d_M_number_26 ?_
  refine lv_ldc2 (v := (-4658895280553007687)) hx hb hown (ht _ kl_M_32) d_M_number_27 ?_
  refine lv_lmul hx hb d_M_number_30 ?_
  refine lv_topl (fun v2 e2 => ?_)
  refine lv_lstore (lv' := [(4, .long v2), (0, .long sd), (2, .int k), (3, .int i)]) hx hb d_M_number_31 hl (by decide) rfl (fun ls hl => ?_)
  refine lv_lload hx hb d_M_number_33 (lv_at hl 0 rfl) ?_
  refine lv_lload hx hb d_M_number_35 (lv_at hl 0 rfl) ?_
  refine lv_bipush (v := 27) hx hb d_M_number_37 (by decide) ?_
  refine lv_lushr hx hb d_M_number_39 rfl ?_
  refine lv_lxor hx hb d_M_number_40 ?_
  refine lv_ldc2 (v := (-7723592293110705685)) hx hb hown (ht _ kl_M_34) d_M_number_41 ?_
  refine lv_lmul hx hb d_M_number_44 ?_
  refine lv_topl (fun v3 e3 => ?_)
  refine lv_lstore (lv' := [(4, .long v3), (0, .long sd), (2, .int k), (3, .int i)]) hx hb d_M_number_45 hl (by decide) rfl (fun ls hl => ?_)
  refine lv_lload hx hb d_M_number_47 (lv_at hl 0 rfl) ?_
  refine lv_lload hx hb d_M_number_49 (lv_at hl 0 rfl) ?_
  refine lv_bipush (v := 31) hx hb d_M_number_51 (by decide) ?_
  refine lv_lushr hx hb d_M_number_53 rfl ?_
  refine lv_lxor hx hb d_M_number_54 ?_
  exact W.lret (v := (v3 ^^^ ((v3.toUInt64 >>> ((31 : Int32).toInt64.toUInt64 &&& Int64.toUInt64 63)).toInt64))) hx hb hr (fun t h9 _ => ⟨congrArg (fun z => Outcome.returned (some (Value.long z))) (by subst e1; subst e2; subst e3; rfl), h9⟩) (fun _ h => nomatch h) d_M_number_55
def fn_M_rest (p1 : Int64) (p2 : Int32) : Int32 := (((((((p1.toUInt64 >>> ((1 : Int32).toInt64.toUInt64 &&& Int64.toUInt64 63)).toInt64) - ((p1.toUInt64 >>> ((1 : Int32).toInt64.toUInt64 &&& Int64.toUInt64 63)).toInt64) / (p2.toInt64) * (p2.toInt64)) * 2) + (p1 &&& 1)) - (((((p1.toUInt64 >>> ((1 : Int32).toInt64.toUInt64 &&& Int64.toUInt64 63)).toInt64) - ((p1.toUInt64 >>> ((1 : Int32).toInt64.toUInt64 &&& Int64.toUInt64 63)).toInt64) / (p2.toInt64) * (p2.toInt64)) * 2) + (p1 &&& 1)) / (p2.toInt64) * (p2.toInt64)).toInt32)
set_option maxHeartbeats 4000000 in
set_option maxRecDepth 100000 in
theorem c_M_rest (l : Launch) (G : GT) (H : Heap) (p1 : Int64) (p2 : Int32) (hz : ¬ p2.toInt64 = 0) : Met l y_M_rest (Cond.code y_M_rest b_M_rest 5 (some .int) :: TG) ({ frames := 0, cells := 0, slots := 0, locals := 0 }) (PC G H [.long p1, .int p2]) (QcRead (fn_M_rest p1 p2)) 0 0 (fun _ => False) := by
  refine Met.ofW (cc := b_M_rest) (maxL := 5) (ret := (some .int)) (by decide) rfl ?_
  intro p e s m args below meth c s₁ B hml hv
  obtain ⟨rfl, hH, hKN⟩ := hv
  subst hH
  have hx := B.exec
  have hb := B.bytes
  have hr := B.returns
  have hts := atoms_spec (ws := (Cond.code y_M_rest b_M_rest 5 (some .int) :: TG)) B.pre
  have ht : ∀ w ∈ TG, w.before _ s = true := fun w h => hts w (List.mem_cons_of_mem _ h)
  have hown : s.vm.findClass R_M = some m.cls := findClass_of_methodNamed B.named
  have hlocks := B.notSynchronized
  have hK := hKN.1
  have hl := lv_entry ([.long p1, .int p2]) (n := 5) (Nat.le_of_ble_eq_true rfl)
  rw [lg_entry_eq]
  generalize (lg_sl ([.long p1, .int p2]) ++ List.replicate (5 - (lg_sl ([.long p1, .int p2])).length) Slot.unset).toArray = ls at hl ⊢
  have hl : lv_has ls 5 [(0, .long p1), (2, .int p2)] := hl
  refine lv_lload_n hx hb d_M_rest_0 rfl (lv_at hl 0 rfl) ?_
  refine lv_iconst (v := 1) hx hb d_M_rest_1 (by decide) ?_
  refine lv_lushr hx hb d_M_rest_2 rfl ?_
  refine lv_lstore_n (lv' := [(3, .long ((p1.toUInt64 >>> ((1 : Int32).toInt64.toUInt64 &&& Int64.toUInt64 63)).toInt64)), (0, .long p1), (2, .int p2)]) hx hb d_M_rest_3 rfl hl (by decide) rfl (fun ls hl => ?_)
  refine lv_lload_n hx hb d_M_rest_4 rfl (lv_at hl 0 rfl) ?_
  refine lv_iload_n hx hb d_M_rest_5 rfl (lv_at hl 2 rfl) ?_
  refine lv_i2l hx hb d_M_rest_6 rfl ?_
  refine lv_lrem hx hb d_M_rest_7 hz ?_
  refine lv_ldc2 (v := 2) hx hb hown (ht _ kl_M_36) d_M_rest_8 ?_
  refine lv_lmul hx hb d_M_rest_11 ?_
  refine lv_lload_n hx hb d_M_rest_12 rfl (lv_at hl 1 rfl) ?_
  refine lv_lconst (v := 1) hx hb d_M_rest_13 (by decide) ?_
  refine lv_land hx hb d_M_rest_14 ?_
  refine lv_ladd hx hb d_M_rest_15 ?_
  refine lv_iload_n hx hb d_M_rest_16 rfl (lv_at hl 2 rfl) ?_
  refine lv_i2l hx hb d_M_rest_17 rfl ?_
  refine lv_lrem hx hb d_M_rest_18 hz ?_
  refine lv_l2i hx hb d_M_rest_19 rfl ?_
  exact W.iret (v := (((((((p1.toUInt64 >>> ((1 : Int32).toInt64.toUInt64 &&& Int64.toUInt64 63)).toInt64) - ((p1.toUInt64 >>> ((1 : Int32).toInt64.toUInt64 &&& Int64.toUInt64 63)).toInt64) / (p2.toInt64) * (p2.toInt64)) * 2) + (p1 &&& 1)) - (((((p1.toUInt64 >>> ((1 : Int32).toInt64.toUInt64 &&& Int64.toUInt64 63)).toInt64) - ((p1.toUInt64 >>> ((1 : Int32).toInt64.toUInt64 &&& Int64.toUInt64 63)).toInt64) / (p2.toInt64) * (p2.toInt64)) * 2) + (p1 &&& 1)) / (p2.toInt64) * (p2.toInt64)).toInt32)) hx hb hr (fun t h9 _ => ⟨congrArg (fun z => Outcome.returned (some (Value.int z))) rfl, h9⟩) (fun _ h => nomatch h) d_M_rest_20
def fn_M_isLess (p1 : Int64) (p2 : Int64) : Int32 := (if 0 ≤ (lg_cmp (p1 ^^^ (-9223372036854775808)) (p2 ^^^ (-9223372036854775808))) then 0 else 1)
set_option maxHeartbeats 4000000 in
set_option maxRecDepth 100000 in
theorem c_M_isLess (l : Launch) (G : GT) (H : Heap) (p1 : Int64) (p2 : Int64) : Met l y_M_isLess (Cond.code y_M_isLess b_M_isLess 4 (some .boolean) :: TG) ({ frames := 0, cells := 0, slots := 0, locals := 0 }) (PC G H [.long p1, .long p2]) (QcRead (fn_M_isLess p1 p2)) 0 0 (fun _ => False) := by
  refine Met.ofW (cc := b_M_isLess) (maxL := 4) (ret := (some .boolean)) (by decide) rfl ?_
  intro p e s m args below meth c s₁ B hml hv
  obtain ⟨rfl, hH, hKN⟩ := hv
  subst hH
  have hx := B.exec
  have hb := B.bytes
  have hr := B.returns
  have hts := atoms_spec (ws := (Cond.code y_M_isLess b_M_isLess 4 (some .boolean) :: TG)) B.pre
  have ht : ∀ w ∈ TG, w.before _ s = true := fun w h => hts w (List.mem_cons_of_mem _ h)
  have hown : s.vm.findClass R_M = some m.cls := findClass_of_methodNamed B.named
  have hlocks := B.notSynchronized
  have hK := hKN.1
  have hl := lv_entry ([.long p1, .long p2]) (n := 4) (Nat.le_of_ble_eq_true rfl)
  rw [lg_entry_eq]
  generalize (lg_sl ([.long p1, .long p2]) ++ List.replicate (4 - (lg_sl ([.long p1, .long p2])).length) Slot.unset).toArray = ls at hl ⊢
  have hl : lv_has ls 4 [(0, .long p1), (2, .long p2)] := hl
  refine lv_lload_n hx hb d_M_isLess_0 rfl (lv_at hl 0 rfl) ?_
  refine lv_ldc2 (v := (-9223372036854775808)) hx hb hown (ht _ kl_M_38) d_M_isLess_1 ?_
  refine lv_lxor hx hb d_M_isLess_4 ?_
  refine lv_lload_n hx hb d_M_isLess_5 rfl (lv_at hl 1 rfl) ?_
  refine lv_ldc2 (v := (-9223372036854775808)) hx hb hown (ht _ kl_M_38) d_M_isLess_6 ?_
  refine lv_lxor hx hb d_M_isLess_9 ?_
  refine W.lcmp hx hb d_M_isLess_10 ?_
  refine lv_if_ge (tgt := 18) hx hb d_M_isLess_11 (by decide) (fun c1 => ?_) (fun c1 => ?_)
  · refine lv_iconst (v := 0) hx hb d_M_isLess_18 (by decide) ?_
    exact W.zret (v := 0) hx hb hr rfl (fun t h9 _ => ⟨congrArg (fun z => Outcome.returned (some (Value.int z))) (by unfold fn_M_isLess; rw [if_pos c1]), h9⟩) (fun _ h => nomatch h) d_M_isLess_19
  · refine lv_iconst (v := 1) hx hb d_M_isLess_14 (by decide) ?_
    refine lv_goto (tgt := 19) hx hb d_M_isLess_15 (by decide) ?_
    exact W.zret (v := 1) hx hb hr rfl (fun t h9 _ => ⟨congrArg (fun z => Outcome.returned (some (Value.int z))) (by unfold fn_M_isLess; rw [if_neg c1]), h9⟩) (fun _ h => nomatch h) d_M_isLess_19
def fn_M_fact (p1 : Int64) (p2 : Int32) : Int32 := (if p2 = 1 then (fn_M_rest p1 100) else (if p2 = 2 then (fn_M_rest ((p1.toUInt64 >>> ((8 : Int32).toInt64.toUInt64 &&& Int64.toUInt64 63)).toInt64) 1000) else (if p2 = 3 then (fn_M_rest ((p1.toUInt64 >>> ((24 : Int32).toInt64.toUInt64 &&& Int64.toUInt64 63)).toInt64) 24) else (fn_M_rest ((p1.toUInt64 >>> ((40 : Int32).toInt64.toUInt64 &&& Int64.toUInt64 63)).toInt64) 2))))
set_option maxHeartbeats 4000000 in
set_option maxRecDepth 100000 in
theorem c_M_fact (l : Launch) (G : GT) (H : Heap) (p1 : Int64) (p2 : Int32) : Met l y_M_fact (Cond.code y_M_fact b_M_fact 3 (some .int) :: TG) ({ frames := 1, cells := 0, slots := 0, locals := 24 }) (PC G H [.long p1, .int p2]) (QcRead (fn_M_fact p1 p2)) 0 0 (fun _ => False) := by
  refine Met.ofW (cc := b_M_fact) (maxL := 3) (ret := (some .int)) (by decide) rfl ?_
  intro p e s m args below meth c s₁ B hml hv
  obtain ⟨rfl, hH, hKN⟩ := hv
  subst hH
  have hx := B.exec
  have hb := B.bytes
  have hr := B.returns
  have hts := atoms_spec (ws := (Cond.code y_M_fact b_M_fact 3 (some .int) :: TG)) B.pre
  have ht : ∀ w ∈ TG, w.before _ s = true := fun w h => hts w (List.mem_cons_of_mem _ h)
  have hown : s.vm.findClass R_M = some m.cls := findClass_of_methodNamed B.named
  have hlocks := B.notSynchronized
  have hK := hKN.1
  have hl := lv_entry ([.long p1, .int p2]) (n := 3) (Nat.le_of_ble_eq_true rfl)
  rw [lg_entry_eq]
  generalize (lg_sl ([.long p1, .int p2]) ++ List.replicate (3 - (lg_sl ([.long p1, .int p2])).length) Slot.unset).toArray = ls at hl ⊢
  have hl : lv_has ls 3 [(0, .long p1), (2, .int p2)] := hl
  refine lv_iload_n hx hb d_M_fact_0 rfl (lv_at hl 1 rfl) ?_
  refine lv_iconst (v := 1) hx hb d_M_fact_1 (by decide) ?_
  refine lv_icmp_ne (tgt := 14) hx hb d_M_fact_2 (by decide) (fun c1 => ?_) (fun c1 => ?_)
  · refine lv_iload_n hx hb d_M_fact_14 rfl (lv_at hl 1 rfl) ?_
    refine lv_iconst (v := 2) hx hb d_M_fact_15 (by decide) ?_
    refine lv_icmp_ne (tgt := 32) hx hb d_M_fact_16 (by decide) (fun c2 => ?_) (fun c2 => ?_)
    · refine lv_iload_n hx hb d_M_fact_32 rfl (lv_at hl 1 rfl) ?_
      refine lv_iconst (v := 3) hx hb d_M_fact_33 (by decide) ?_
      refine lv_icmp_ne (tgt := 49) hx hb d_M_fact_34 (by decide) (fun c3 => ?_) (fun c3 => ?_)
      · refine lv_lload_n hx hb d_M_fact_49 rfl (lv_at hl 0 rfl) ?_
        refine lv_bipush (v := 40) hx hb d_M_fact_50 (by decide) ?_
        refine lv_lushr hx hb d_M_fact_52 rfl ?_
        refine lv_iconst (v := 2) hx hb d_M_fact_53 (by decide) ?_
        refine pr_i (ru_S (As := [.long ((p1.toUInt64 >>> ((40 : Int32).toInt64.toUInt64 &&& Int64.toUInt64 63)).toInt64), .int 2]) (rest := []) ⟨hx, hb, hml, hown, ht⟩ hKN (c_M_rest l G _ ((p1.toUInt64 >>> ((40 : Int32).toInt64.toUInt64 &&& Int64.toUInt64 63)).toInt64) 2 (by decide)) kc_M_40 ⟨rfl, rfl⟩ ⟨Nat.le_of_ble_eq_true rfl, Nat.le_of_ble_eq_true rfl⟩ rfl hl.1 rfl (Nat.le_of_ble_eq_true rfl) d_M_fact_54 ⟨Nat.le_of_ble_eq_true rfl, Nat.le_of_ble_eq_true rfl⟩) ?_
        exact W.iret (v := (fn_M_rest ((p1.toUInt64 >>> ((40 : Int32).toInt64.toUInt64 &&& Int64.toUInt64 63)).toInt64) 2)) hx hb hr (fun t h9 _ => ⟨congrArg (fun z => Outcome.returned (some (Value.int z))) (by unfold fn_M_fact; rw [if_neg c1, if_neg c2, if_neg c3]), h9⟩) (fun _ h => nomatch h) d_M_fact_57
      · refine lv_lload_n hx hb d_M_fact_37 rfl (lv_at hl 0 rfl) ?_
        refine lv_bipush (v := 24) hx hb d_M_fact_38 (by decide) ?_
        refine lv_lushr hx hb d_M_fact_40 rfl ?_
        refine lv_bipush (v := 24) hx hb d_M_fact_41 (by decide) ?_
        refine pr_i (ru_S (As := [.long ((p1.toUInt64 >>> ((24 : Int32).toInt64.toUInt64 &&& Int64.toUInt64 63)).toInt64), .int 24]) (rest := []) ⟨hx, hb, hml, hown, ht⟩ hKN (c_M_rest l G _ ((p1.toUInt64 >>> ((24 : Int32).toInt64.toUInt64 &&& Int64.toUInt64 63)).toInt64) 24 (by decide)) kc_M_40 ⟨rfl, rfl⟩ ⟨Nat.le_of_ble_eq_true rfl, Nat.le_of_ble_eq_true rfl⟩ rfl hl.1 rfl (Nat.le_of_ble_eq_true rfl) d_M_fact_43 ⟨Nat.le_of_ble_eq_true rfl, Nat.le_of_ble_eq_true rfl⟩) ?_
        refine lv_goto (tgt := 57) hx hb d_M_fact_46 (by decide) ?_
        exact W.iret (v := (fn_M_rest ((p1.toUInt64 >>> ((24 : Int32).toInt64.toUInt64 &&& Int64.toUInt64 63)).toInt64) 24)) hx hb hr (fun t h9 _ => ⟨congrArg (fun z => Outcome.returned (some (Value.int z))) (by unfold fn_M_fact; rw [if_neg c1, if_neg c2, if_pos c3]), h9⟩) (fun _ h => nomatch h) d_M_fact_57
    · refine lv_lload_n hx hb d_M_fact_19 rfl (lv_at hl 0 rfl) ?_
      refine lv_bipush (v := 8) hx hb d_M_fact_20 (by decide) ?_
      refine lv_lushr hx hb d_M_fact_22 rfl ?_
      refine lv_sipush (v := 1000) hx hb d_M_fact_23 (by decide) ?_
      refine pr_i (ru_S (As := [.long ((p1.toUInt64 >>> ((8 : Int32).toInt64.toUInt64 &&& Int64.toUInt64 63)).toInt64), .int 1000]) (rest := []) ⟨hx, hb, hml, hown, ht⟩ hKN (c_M_rest l G _ ((p1.toUInt64 >>> ((8 : Int32).toInt64.toUInt64 &&& Int64.toUInt64 63)).toInt64) 1000 (by decide)) kc_M_40 ⟨rfl, rfl⟩ ⟨Nat.le_of_ble_eq_true rfl, Nat.le_of_ble_eq_true rfl⟩ rfl hl.1 rfl (Nat.le_of_ble_eq_true rfl) d_M_fact_26 ⟨Nat.le_of_ble_eq_true rfl, Nat.le_of_ble_eq_true rfl⟩) ?_
      refine lv_goto (tgt := 57) hx hb d_M_fact_29 (by decide) ?_
      exact W.iret (v := (fn_M_rest ((p1.toUInt64 >>> ((8 : Int32).toInt64.toUInt64 &&& Int64.toUInt64 63)).toInt64) 1000)) hx hb hr (fun t h9 _ => ⟨congrArg (fun z => Outcome.returned (some (Value.int z))) (by unfold fn_M_fact; rw [if_neg c1, if_pos c2]), h9⟩) (fun _ h => nomatch h) d_M_fact_57
  · refine lv_lload_n hx hb d_M_fact_5 rfl (lv_at hl 0 rfl) ?_
    refine lv_bipush (v := 100) hx hb d_M_fact_6 (by decide) ?_
    refine pr_i (ru_S (As := [.long p1, .int 100]) (rest := []) ⟨hx, hb, hml, hown, ht⟩ hKN (c_M_rest l G _ p1 100 (by decide)) kc_M_40 ⟨rfl, rfl⟩ ⟨Nat.le_of_ble_eq_true rfl, Nat.le_of_ble_eq_true rfl⟩ rfl hl.1 rfl (Nat.le_of_ble_eq_true rfl) d_M_fact_8 ⟨Nat.le_of_ble_eq_true rfl, Nat.le_of_ble_eq_true rfl⟩) ?_
    refine lv_goto (tgt := 57) hx hb d_M_fact_11 (by decide) ?_
    exact W.iret (v := (fn_M_rest p1 100)) hx hb hr (fun t h9 _ => ⟨congrArg (fun z => Outcome.returned (some (Value.int z))) (by unfold fn_M_fact; rw [if_pos c1]), h9⟩) (fun _ h => nomatch h) d_M_fact_57
/-- how many are ahead of i among the first j -/
def hbf (sd : Int64) (k i : Int32) : Nat → Int32
  | 0 => 0
  | j + 1 => if fn_M_isLess (zN sd k i) (zN sd k (nI j)) = 0 then (if lg_cmp (zN sd k i) (zN sd k (nI j)) = 0 then (if nI j ≤ i then hbf sd k i j else hbf sd k i j + 1) else hbf sd k i j) else hbf sd k i j + 1
def hf (sd : Int64) (k : Int32) (n : Nat) (i : Int32) : Int32 := if k = 3 then (if nI n / 2 ≤ hbf sd k i n then 0 else 1) else 0
set_option maxHeartbeats 4000000 in
set_option maxRecDepth 100000 in
theorem c_M_hasFaults (l : Launch) (G : GT) (H : Heap) (p1 : Int64) (p2 : Int32) (n : Nat) (p4 : Int32) (hn : n ≤ 16) : Met l y_M_hasFaults (Cond.code y_M_hasFaults b_M_hasFaults 11 (some .boolean) :: TG) ({ frames := 1, cells := 0, slots := 0, locals := 25 }) (PC G H [.long p1, .int p2, .int (nI n), .int p4]) (QcRead (hf p1 p2 n p4)) 0 0 (fun _ => False) := by
  refine Met.ofW (cc := b_M_hasFaults) (maxL := 11) (ret := (some .boolean)) (by decide) rfl ?_
  intro p e s m args below meth c s₁ B hml hv
  obtain ⟨rfl, hH, hKN⟩ := hv
  subst hH
  have hx := B.exec
  have hb := B.bytes
  have hr := B.returns
  have hts := atoms_spec (ws := (Cond.code y_M_hasFaults b_M_hasFaults 11 (some .boolean) :: TG)) B.pre
  have ht : ∀ w ∈ TG, w.before _ s = true := fun w h => hts w (List.mem_cons_of_mem _ h)
  have hown : s.vm.findClass R_M = some m.cls := findClass_of_methodNamed B.named
  have hlocks := B.notSynchronized
  have hK := hKN.1
  have hl := lv_entry ([.long p1, .int p2, .int (nI n), .int p4]) (n := 11) (Nat.le_of_ble_eq_true rfl)
  rw [lg_entry_eq]
  generalize (lg_sl ([.long p1, .int p2, .int (nI n), .int p4]) ++ List.replicate (11 - (lg_sl ([.long p1, .int p2, .int (nI n), .int p4])).length) Slot.unset).toArray = ls at hl ⊢
  have hl : lv_has ls 11 [(0, .long p1), (2, .int p2), (3, .int (nI n)), (4, .int p4)] := hl
  refine lv_iconst (v := 0) hx hb d_M_hasFaults_0 (by decide) ?_
  refine lv_istore (lv' := [(5, .int 0), (0, .long p1), (2, .int p2), (3, .int (nI n)), (4, .int p4)]) hx hb d_M_hasFaults_1 hl (by decide) rfl (fun ls hl => ?_)
  refine lv_lload_n hx hb d_M_hasFaults_3 rfl (lv_at hl 1 rfl) ?_
  refine lv_iload_n hx hb d_M_hasFaults_4 rfl (lv_at hl 2 rfl) ?_
  refine lv_iload hx hb d_M_hasFaults_5 (lv_at hl 4 rfl) ?_
  refine pr_l (ru_S (As := [.long p1, .int p2, .int p4]) (rest := []) ⟨hx, hb, hml, hown, ht⟩ hKN (c_M_number l G _ p1 p2 p4) kc_M_44 ⟨rfl, rfl⟩ ⟨Nat.le_of_ble_eq_true rfl, Nat.le_of_ble_eq_true rfl⟩ rfl hl.1 rfl (Nat.le_of_ble_eq_true rfl) d_M_hasFaults_7 ⟨Nat.le_of_ble_eq_true rfl, Nat.le_of_ble_eq_true rfl⟩) ?_
  refine lv_lstore (lv' := [(6, .long (zN p1 p2 p4)), (5, .int 0), (0, .long p1), (2, .int p2), (3, .int (nI n)), (4, .int p4)]) hx hb d_M_hasFaults_10 hl (by decide) rfl (fun ls hl => ?_)
  refine lv_iconst (v := 0) hx hb d_M_hasFaults_12 (by decide) ?_
  refine lv_istore (lv' := [(8, .int 0), (6, .long (zN p1 p2 p4)), (5, .int 0), (0, .long p1), (2, .int p2), (3, .int (nI n)), (4, .int p4)]) hx hb d_M_hasFaults_13 hl (by decide) rfl (fun ls hl => ?_)
  have loop : ∀ (kk j : Nat) (ls : Array Slot), j + kk = n → lv_has ls 11 [(0, .long p1), (2, .int p2), (3, .int (nI n)), (4, .int p4), (5, .int (hbf p1 p2 p4 j)), (6, .long (zN p1 p2 p4)), (8, .int (nI j))] → W p l e (headSpec (Cond.code y_M_hasFaults b_M_hasFaults 11 (some .boolean) :: TG) ({ frames := 1, cells := 0, slots := 0, locals := 25 })).room s m ([.long p1, .int p2, .int (nI n), .int p4] : List Value).toArray below meth c s.heap [] 0 0 (MQ below (QcRead (hf p1 p2 n p4)) ([.long p1, .int p2, .int (nI n), .int p4] : List Value).toArray s 0 0 (fun _ => False)) (F0 m 15 ls []) := by
    intro kk
    induction kk with
    | zero =>
      intro j  ls hj  hl
      refine lv_iload hx hb d_M_hasFaults_15 (lv_at hl 6 rfl) ?_
      refine lv_iload_n hx hb d_M_hasFaults_17 rfl (lv_at hl 2 rfl) ?_
      refine lv_icmp_ge (tgt := 72) hx hb d_M_hasFaults_18 (by decide) (fun c1 => ?_) (fun c1 => ?_)
      · refine lv_iload_n hx hb d_M_hasFaults_72 rfl (lv_at hl 1 rfl) ?_
        refine lv_iconst (v := 3) hx hb d_M_hasFaults_73 (by decide) ?_
        refine lv_icmp_ne (tgt := 89) hx hb d_M_hasFaults_74 (by decide) (fun c2 => ?_) (fun c2 => ?_)
        · refine lv_iconst (v := 0) hx hb d_M_hasFaults_89 (by decide) ?_
          exact W.zret (v := 0) hx hb hr rfl (fun t h9 _ => ⟨congrArg (fun z => Outcome.returned (some (Value.int z))) (by rw [show j = n by omega] at *; unfold hf; rw [if_neg c2]), h9⟩) (fun _ h => nomatch h) d_M_hasFaults_90
        · refine lv_iload hx hb d_M_hasFaults_77 (lv_at hl 4 rfl) ?_
          refine lv_iload_n hx hb d_M_hasFaults_79 rfl (lv_at hl 2 rfl) ?_
          refine lv_iconst (v := 2) hx hb d_M_hasFaults_80 (by decide) ?_
          refine lv_idiv hx hb d_M_hasFaults_81 (by decide) ?_
          refine lv_icmp_ge (tgt := 89) hx hb d_M_hasFaults_82 (by decide) (fun c3 => ?_) (fun c3 => ?_)
          · refine lv_iconst (v := 0) hx hb d_M_hasFaults_89 (by decide) ?_
            exact W.zret (v := 0) hx hb hr rfl (fun t h9 _ => ⟨congrArg (fun z => Outcome.returned (some (Value.int z))) (by rw [show j = n by omega] at *; unfold hf; rw [if_pos c2, if_pos c3]), h9⟩) (fun _ h => nomatch h) d_M_hasFaults_90
          · refine lv_iconst (v := 1) hx hb d_M_hasFaults_85 (by decide) ?_
            refine lv_goto (tgt := 90) hx hb d_M_hasFaults_86 (by decide) ?_
            exact W.zret (v := 1) hx hb hr rfl (fun t h9 _ => ⟨congrArg (fun z => Outcome.returned (some (Value.int z))) (by rw [show j = n by omega] at *; unfold hf; rw [if_pos c2, if_neg c3]), h9⟩) (fun _ h => nomatch h) d_M_hasFaults_90
      · exact absurd (show nI n ≤ nI j from nI_le (by omega) (by omega)) c1
    | succ kk ih =>
      intro j  ls hj  hl
      refine lv_iload hx hb d_M_hasFaults_15 (lv_at hl 6 rfl) ?_
      refine lv_iload_n hx hb d_M_hasFaults_17 rfl (lv_at hl 2 rfl) ?_
      refine lv_icmp_ge (tgt := 72) hx hb d_M_hasFaults_18 (by decide) (fun c4 => ?_) (fun c4 => ?_)
      · exact absurd c4 (nI_ge (show j < n by omega) (by omega))
      · refine lv_lload_n hx hb d_M_hasFaults_21 rfl (lv_at hl 0 rfl) ?_
        refine lv_iload_n hx hb d_M_hasFaults_22 rfl (lv_at hl 1 rfl) ?_
        refine lv_iload hx hb d_M_hasFaults_23 (lv_at hl 6 rfl) ?_
        refine pr_l (ru_S (As := [.long p1, .int p2, .int (nI j)]) (rest := []) ⟨hx, hb, hml, hown, ht⟩ hKN (c_M_number l G _ p1 p2 (nI j)) kc_M_44 ⟨rfl, rfl⟩ ⟨Nat.le_of_ble_eq_true rfl, Nat.le_of_ble_eq_true rfl⟩ rfl hl.1 rfl (Nat.le_of_ble_eq_true rfl) d_M_hasFaults_25 ⟨Nat.le_of_ble_eq_true rfl, Nat.le_of_ble_eq_true rfl⟩) ?_
        refine lv_lstore (lv' := [(9, .long (zN p1 p2 (nI j))), (0, .long p1), (2, .int p2), (3, .int (nI n)), (4, .int p4), (5, .int (hbf p1 p2 p4 j)), (6, .long (zN p1 p2 p4)), (8, .int (nI j))]) hx hb d_M_hasFaults_28 hl (by decide) rfl (fun ls hl => ?_)
        refine lv_lload hx hb d_M_hasFaults_30 (lv_at hl 6 rfl) ?_
        refine lv_lload hx hb d_M_hasFaults_32 (lv_at hl 0 rfl) ?_
        refine pr_i (ru_S (As := [.long (zN p1 p2 p4), .long (zN p1 p2 (nI j))]) (rest := []) ⟨hx, hb, hml, hown, ht⟩ hKN (c_M_isLess l G _ (zN p1 p2 p4) (zN p1 p2 (nI j))) kc_M_48 ⟨rfl, rfl⟩ ⟨Nat.le_of_ble_eq_true rfl, Nat.le_of_ble_eq_true rfl⟩ rfl hl.1 rfl (Nat.le_of_ble_eq_true rfl) d_M_hasFaults_34 ⟨Nat.le_of_ble_eq_true rfl, Nat.le_of_ble_eq_true rfl⟩) ?_
        refine lv_if_ne (tgt := 55) hx hb d_M_hasFaults_37 (by decide) (fun c5 => ?_) (fun c5 => ?_)
        · refine lv_iload hx hb d_M_hasFaults_55 (lv_at hl 5 rfl) ?_
          refine lv_iconst (v := 1) hx hb d_M_hasFaults_57 (by decide) ?_
          refine lv_iadd hx hb d_M_hasFaults_58 ?_
          refine lv_goto (tgt := 64) hx hb d_M_hasFaults_59 (by decide) ?_
          refine lv_istore (lv' := [(5, .int ((hbf p1 p2 p4 j) + 1)), (9, .long (zN p1 p2 (nI j))), (0, .long p1), (2, .int p2), (3, .int (nI n)), (4, .int p4), (6, .long (zN p1 p2 p4)), (8, .int (nI j))]) hx hb d_M_hasFaults_64 hl (by decide) rfl (fun ls hl => ?_)
          refine lv_iinc (v := nI (j + 1)) (lv' := [(8, .int (nI (j + 1))), (5, .int ((hbf p1 p2 p4 j) + 1)), (9, .long (zN p1 p2 (nI j))), (0, .long p1), (2, .int p2), (3, .int (nI n)), (4, .int p4), (6, .long (zN p1 p2 p4))]) hx hb d_M_hasFaults_66 hl (k := 7) rfl (nI_1 j) (by decide) rfl (fun ls hl => ?_)
          refine lv_goto (tgt := 15) hx hb d_M_hasFaults_69 (by decide) ?_
          exact ih (j + 1) ls (by omega) (by rw [show hbf p1 p2 p4 (j + 1) = ((hbf p1 p2 p4 j) + 1) from by simp only [hbf]; rw [if_neg c5]]; exact lv_sub hl [3, 4, 5, 6, 1, 7, 0] rfl)
        · refine lv_lload hx hb d_M_hasFaults_40 (lv_at hl 6 rfl) ?_
          refine lv_lload hx hb d_M_hasFaults_42 (lv_at hl 0 rfl) ?_
          refine W.lcmp hx hb d_M_hasFaults_44 ?_
          refine lv_if_ne (tgt := 62) hx hb d_M_hasFaults_45 (by decide) (fun c6 => ?_) (fun c6 => ?_)
          · refine lv_iload hx hb d_M_hasFaults_62 (lv_at hl 5 rfl) ?_
            refine lv_istore (lv' := [(5, .int (hbf p1 p2 p4 j)), (9, .long (zN p1 p2 (nI j))), (0, .long p1), (2, .int p2), (3, .int (nI n)), (4, .int p4), (6, .long (zN p1 p2 p4)), (8, .int (nI j))]) hx hb d_M_hasFaults_64 hl (by decide) rfl (fun ls hl => ?_)
            refine lv_iinc (v := nI (j + 1)) (lv' := [(8, .int (nI (j + 1))), (5, .int (hbf p1 p2 p4 j)), (9, .long (zN p1 p2 (nI j))), (0, .long p1), (2, .int p2), (3, .int (nI n)), (4, .int p4), (6, .long (zN p1 p2 p4))]) hx hb d_M_hasFaults_66 hl (k := 7) rfl (nI_1 j) (by decide) rfl (fun ls hl => ?_)
            refine lv_goto (tgt := 15) hx hb d_M_hasFaults_69 (by decide) ?_
            exact ih (j + 1) ls (by omega) (by rw [show hbf p1 p2 p4 (j + 1) = hbf p1 p2 p4 j from by simp only [hbf]; rw [if_pos c5, if_neg c6]]; exact lv_sub hl [3, 4, 5, 6, 1, 7, 0] rfl)
          · refine lv_iload hx hb d_M_hasFaults_48 (lv_at hl 7 rfl) ?_
            refine lv_iload hx hb d_M_hasFaults_50 (lv_at hl 4 rfl) ?_
            refine lv_icmp_le (tgt := 62) hx hb d_M_hasFaults_52 (by decide) (fun c7 => ?_) (fun c7 => ?_)
            · refine lv_iload hx hb d_M_hasFaults_62 (lv_at hl 5 rfl) ?_
              refine lv_istore (lv' := [(5, .int (hbf p1 p2 p4 j)), (9, .long (zN p1 p2 (nI j))), (0, .long p1), (2, .int p2), (3, .int (nI n)), (4, .int p4), (6, .long (zN p1 p2 p4)), (8, .int (nI j))]) hx hb d_M_hasFaults_64 hl (by decide) rfl (fun ls hl => ?_)
              refine lv_iinc (v := nI (j + 1)) (lv' := [(8, .int (nI (j + 1))), (5, .int (hbf p1 p2 p4 j)), (9, .long (zN p1 p2 (nI j))), (0, .long p1), (2, .int p2), (3, .int (nI n)), (4, .int p4), (6, .long (zN p1 p2 p4))]) hx hb d_M_hasFaults_66 hl (k := 7) rfl (nI_1 j) (by decide) rfl (fun ls hl => ?_)
              refine lv_goto (tgt := 15) hx hb d_M_hasFaults_69 (by decide) ?_
              exact ih (j + 1) ls (by omega) (by rw [show hbf p1 p2 p4 (j + 1) = hbf p1 p2 p4 j from by simp only [hbf]; rw [if_pos c5, if_pos c6, if_pos c7]]; exact lv_sub hl [3, 4, 5, 6, 1, 7, 0] rfl)
            · refine lv_iload hx hb d_M_hasFaults_55 (lv_at hl 5 rfl) ?_
              refine lv_iconst (v := 1) hx hb d_M_hasFaults_57 (by decide) ?_
              refine lv_iadd hx hb d_M_hasFaults_58 ?_
              refine lv_goto (tgt := 64) hx hb d_M_hasFaults_59 (by decide) ?_
              refine lv_istore (lv' := [(5, .int ((hbf p1 p2 p4 j) + 1)), (9, .long (zN p1 p2 (nI j))), (0, .long p1), (2, .int p2), (3, .int (nI n)), (4, .int p4), (6, .long (zN p1 p2 p4)), (8, .int (nI j))]) hx hb d_M_hasFaults_64 hl (by decide) rfl (fun ls hl => ?_)
              refine lv_iinc (v := nI (j + 1)) (lv' := [(8, .int (nI (j + 1))), (5, .int ((hbf p1 p2 p4 j) + 1)), (9, .long (zN p1 p2 (nI j))), (0, .long p1), (2, .int p2), (3, .int (nI n)), (4, .int p4), (6, .long (zN p1 p2 p4))]) hx hb d_M_hasFaults_66 hl (k := 7) rfl (nI_1 j) (by decide) rfl (fun ls hl => ?_)
              refine lv_goto (tgt := 15) hx hb d_M_hasFaults_69 (by decide) ?_
              exact ih (j + 1) ls (by omega) (by rw [show hbf p1 p2 p4 (j + 1) = ((hbf p1 p2 p4 j) + 1) from by simp only [hbf]; rw [if_pos c5, if_pos c6, if_neg c7]]; exact lv_sub hl [3, 4, 5, 6, 1, 7, 0] rfl)
  exact loop n 0 ls (by omega) (by exact lv_sub hl [3, 4, 5, 6, 2, 1, 0] rfl)
def co (x : Int32) : Nat → Int32
  | 0 => 0
  | j + 1 => co x j + ((x >>> (nI j &&& 31)) &&& 1)
set_option maxHeartbeats 4000000 in
set_option maxRecDepth 100000 in
theorem c_M_countOf (l : Launch) (G : GT) (H : Heap) (p1 : Int32) : Met l y_M_countOf (Cond.code y_M_countOf b_M_countOf 3 (some .int) :: TG) ({ frames := 0, cells := 0, slots := 0, locals := 0 }) (PC G H [.int p1]) (QcRead (co p1 16)) 0 0 (fun _ => False) := by
  refine Met.ofW (cc := b_M_countOf) (maxL := 3) (ret := (some .int)) (by decide) rfl ?_
  intro p e s m args below meth c s₁ B hml hv
  obtain ⟨rfl, hH, hKN⟩ := hv
  subst hH
  have hx := B.exec
  have hb := B.bytes
  have hr := B.returns
  have hts := atoms_spec (ws := (Cond.code y_M_countOf b_M_countOf 3 (some .int) :: TG)) B.pre
  have ht : ∀ w ∈ TG, w.before _ s = true := fun w h => hts w (List.mem_cons_of_mem _ h)
  have hown : s.vm.findClass R_M = some m.cls := findClass_of_methodNamed B.named
  have hlocks := B.notSynchronized
  have hK := hKN.1
  have hl := lv_entry ([.int p1]) (n := 3) (Nat.le_of_ble_eq_true rfl)
  rw [lg_entry_eq]
  generalize (lg_sl ([.int p1]) ++ List.replicate (3 - (lg_sl ([.int p1])).length) Slot.unset).toArray = ls at hl ⊢
  have hl : lv_has ls 3 [(0, .int p1)] := hl
  refine lv_iconst (v := 0) hx hb d_M_countOf_0 (by decide) ?_
  refine lv_istore_n (lv' := [(1, .int 0), (0, .int p1)]) hx hb d_M_countOf_1 rfl hl (by decide) rfl (fun ls hl => ?_)
  refine lv_iconst (v := 0) hx hb d_M_countOf_2 (by decide) ?_
  refine lv_istore_n (lv' := [(2, .int 0), (1, .int 0), (0, .int p1)]) hx hb d_M_countOf_3 rfl hl (by decide) rfl (fun ls hl => ?_)
  have loop : ∀ (kk j : Nat) (ls : Array Slot), j + kk = 16 → lv_has ls 3 [(0, .int p1), (1, .int (co p1 j)), (2, .int (nI j))] → W p l e (headSpec (Cond.code y_M_countOf b_M_countOf 3 (some .int) :: TG) ({ frames := 0, cells := 0, slots := 0, locals := 0 })).room s m ([.int p1] : List Value).toArray below meth c s.heap [] 0 0 (MQ below (QcRead (co p1 16)) ([.int p1] : List Value).toArray s 0 0 (fun _ => False)) (F0 m 4 ls []) := by
    intro kk
    induction kk with
    | zero =>
      intro j  ls hj  hl
      refine lv_iload_n hx hb d_M_countOf_4 rfl (lv_at hl 2 rfl) ?_
      refine lv_bipush (v := 16) hx hb d_M_countOf_5 (by decide) ?_
      refine lv_icmp_ge (tgt := 24) hx hb d_M_countOf_7 (by decide) (fun c1 => ?_) (fun c1 => ?_)
      · refine lv_iload_n hx hb d_M_countOf_24 rfl (lv_at hl 1 rfl) ?_
        exact W.iret (v := co p1 j) hx hb hr (fun t h9 _ => ⟨congrArg (fun z => Outcome.returned (some (Value.int z))) (by rw [show j = 16 by omega]), h9⟩) (fun _ h => nomatch h) d_M_countOf_25
      · exact absurd (show (16 : Int32) ≤ nI j from by rw [show j = 16 by omega]; decide) c1
    | succ kk ih =>
      intro j  ls hj  hl
      refine lv_iload_n hx hb d_M_countOf_4 rfl (lv_at hl 2 rfl) ?_
      refine lv_bipush (v := 16) hx hb d_M_countOf_5 (by decide) ?_
      refine lv_icmp_ge (tgt := 24) hx hb d_M_countOf_7 (by decide) (fun c2 => ?_) (fun c2 => ?_)
      · exact absurd c2 (nI_ge (a := j) (b := 16) (by omega) (by decide))
      · refine lv_iload_n hx hb d_M_countOf_10 rfl (lv_at hl 1 rfl) ?_
        refine lv_iload_n hx hb d_M_countOf_11 rfl (lv_at hl 0 rfl) ?_
        refine lv_iload_n hx hb d_M_countOf_12 rfl (lv_at hl 2 rfl) ?_
        refine lv_ishr hx hb d_M_countOf_13 ?_
        refine lv_iconst (v := 1) hx hb d_M_countOf_14 (by decide) ?_
        refine lv_iand hx hb d_M_countOf_15 ?_
        refine lv_iadd hx hb d_M_countOf_16 ?_
        refine lv_istore_n (lv' := [(1, .int ((co p1 j) + ((p1 >>> ((nI j) &&& 31)) &&& 1))), (0, .int p1), (2, .int (nI j))]) hx hb d_M_countOf_17 rfl hl (by decide) rfl (fun ls hl => ?_)
        refine lv_iinc (v := nI (j + 1)) (lv' := [(2, .int (nI (j + 1))), (1, .int ((co p1 j) + ((p1 >>> ((nI j) &&& 31)) &&& 1))), (0, .int p1)]) hx hb d_M_countOf_18 hl (k := 2) rfl (nI_1 j) (by decide) rfl (fun ls hl => ?_)
        refine lv_goto (tgt := 4) hx hb d_M_countOf_21 (by decide) ?_
        exact ih (j + 1) ls (by omega) (by exact lv_sub hl [2, 1, 0] rfl)
  exact loop 16 0 ls (by omega) (by exact lv_sub hl [2, 1, 0] rfl)
