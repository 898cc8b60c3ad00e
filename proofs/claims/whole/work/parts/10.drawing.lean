def fn_D_isEmpty (n : Nat) : Int32 := (if nI n = 0 then 1 else 0)
set_option maxHeartbeats 4000000 in
set_option maxRecDepth 100000 in
theorem c_D_isEmpty (l : Launch) (G : GT) (H : Heap) (a : Nat) (b : Nat) (sd : Int64) (k : Int32) (n : Nat) (fb : Int32) (f : Nat → Int64) (hP : va_P G.1 classes [(a, .inr (1, [.ref b, .long sd, .int k, .int (nI n), .int fb])), (b, .inl (G.2.1, 16, .inr (.inl f)))] H) (hn : n ≤ 16) : Met l y_D_isEmpty (Cond.code y_D_isEmpty b_D_isEmpty 1 (some .boolean) :: TG) ({ frames := 0, cells := 0, slots := 0, locals := 0 }) (PC G H [.ref a]) (QcRead (fn_D_isEmpty n)) 0 0 (fun _ => False) := by
  refine Met.ofW (cc := b_D_isEmpty) (maxL := 1) (ret := (some .boolean)) (by decide) rfl ?_
  intro p e s m args below meth c s₁ B hml hv
  obtain ⟨rfl, hH, hKN⟩ := hv
  subst hH
  have hx := B.exec
  have hb := B.bytes
  have hr := B.returns
  have hts := atoms_spec (ws := (Cond.code y_D_isEmpty b_D_isEmpty 1 (some .boolean) :: TG)) B.pre
  have ht : ∀ w ∈ TG, w.before _ s = true := fun w h => hts w (List.mem_cons_of_mem _ h)
  have hown : s.vm.findClass R_D = some m.cls := findClass_of_methodNamed B.named
  have hlocks := B.notSynchronized
  have hK := hKN.1
  have hl := lv_entry ([.ref a]) (n := 1) (Nat.le_of_ble_eq_true rfl)
  rw [lg_entry_eq]
  generalize (lg_sl ([.ref a]) ++ List.replicate (1 - (lg_sl ([.ref a])).length) Slot.unset).toArray = ls at hl ⊢
  have hl : lv_has ls 1 [(0, .ref a)] := hl
  refine lv_aload_n hx hb d_D_isEmpty_0 rfl (lv_at hl 0 rfl) ?_
  refine va_get (D := G.1) (ci := 1) (v := .int (nI n)) (C := R_D) (T := F_D) (N := 5) hx hb ht in_D hown hK hP 0 rfl rfl 3 (by decide) (ht _ kf_D_23) (fun _ h9 => h9) rfl d_D_isEmpty_1 ?_
  refine lv_if_ne (tgt := 11) hx hb d_D_isEmpty_4 (by decide) (fun c1 => ?_) (fun c1 => ?_)
  · refine lv_iconst (v := 0) hx hb d_D_isEmpty_11 (by decide) ?_
    exact W.zret (v := 0) hx hb hr rfl (fun t h9 _ => ⟨congrArg (fun z => Outcome.returned (some (Value.int z))) (by unfold fn_D_isEmpty; rw [if_neg c1]), h9⟩) (fun _ h => nomatch h) d_D_isEmpty_12
  · refine lv_iconst (v := 1) hx hb d_D_isEmpty_7 (by decide) ?_
    refine lv_goto (tgt := 12) hx hb d_D_isEmpty_8 (by decide) ?_
    exact W.zret (v := 1) hx hb hr rfl (fun t h9 _ => ⟨congrArg (fun z => Outcome.returned (some (Value.int z))) (by unfold fn_D_isEmpty; rw [if_pos c1]), h9⟩) (fun _ h => nomatch h) d_D_isEmpty_12
def fn_D_has (n : Nat) (p1 : Int32) : Int32 := (if p1 < 0 then 0 else (if nI n ≤ p1 then 0 else 1))
set_option maxHeartbeats 4000000 in
set_option maxRecDepth 100000 in
theorem c_D_has (l : Launch) (G : GT) (H : Heap) (a : Nat) (b : Nat) (sd : Int64) (k : Int32) (n : Nat) (fb : Int32) (f : Nat → Int64) (p1 : Int32) (hP : va_P G.1 classes [(a, .inr (1, [.ref b, .long sd, .int k, .int (nI n), .int fb])), (b, .inl (G.2.1, 16, .inr (.inl f)))] H) (hn : n ≤ 16) : Met l y_D_has (Cond.code y_D_has b_D_has 2 (some .boolean) :: TG) ({ frames := 0, cells := 0, slots := 0, locals := 0 }) (PC G H [.ref a, .int p1]) (QcRead (fn_D_has n p1)) 0 0 (fun _ => False) := by
  refine Met.ofW (cc := b_D_has) (maxL := 2) (ret := (some .boolean)) (by decide) rfl ?_
  intro p e s m args below meth c s₁ B hml hv
  obtain ⟨rfl, hH, hKN⟩ := hv
  subst hH
  have hx := B.exec
  have hb := B.bytes
  have hr := B.returns
  have hts := atoms_spec (ws := (Cond.code y_D_has b_D_has 2 (some .boolean) :: TG)) B.pre
  have ht : ∀ w ∈ TG, w.before _ s = true := fun w h => hts w (List.mem_cons_of_mem _ h)
  have hown : s.vm.findClass R_D = some m.cls := findClass_of_methodNamed B.named
  have hlocks := B.notSynchronized
  have hK := hKN.1
  have hl := lv_entry ([.ref a, .int p1]) (n := 2) (Nat.le_of_ble_eq_true rfl)
  rw [lg_entry_eq]
  generalize (lg_sl ([.ref a, .int p1]) ++ List.replicate (2 - (lg_sl ([.ref a, .int p1])).length) Slot.unset).toArray = ls at hl ⊢
  have hl : lv_has ls 2 [(0, .ref a), (1, .int p1)] := hl
  refine lv_iload_n hx hb d_D_has_0 rfl (lv_at hl 1 rfl) ?_
  refine lv_if_lt (tgt := 16) hx hb d_D_has_1 (by decide) (fun c1 => ?_) (fun c1 => ?_)
  · refine lv_iconst (v := 0) hx hb d_D_has_16 (by decide) ?_
    exact W.zret (v := 0) hx hb hr rfl (fun t h9 _ => ⟨congrArg (fun z => Outcome.returned (some (Value.int z))) (by unfold fn_D_has; rw [if_pos c1]), h9⟩) (fun _ h => nomatch h) d_D_has_17
  · refine lv_iload_n hx hb d_D_has_4 rfl (lv_at hl 1 rfl) ?_
    refine lv_aload_n hx hb d_D_has_5 rfl (lv_at hl 0 rfl) ?_
    refine va_get (D := G.1) (ci := 1) (v := .int (nI n)) (C := R_D) (T := F_D) (N := 5) hx hb ht in_D hown hK hP 0 rfl rfl 3 (by decide) (ht _ kf_D_23) (fun _ h9 => h9) rfl d_D_has_6 ?_
    refine lv_icmp_ge (tgt := 16) hx hb d_D_has_9 (by decide) (fun c2 => ?_) (fun c2 => ?_)
    · refine lv_iconst (v := 0) hx hb d_D_has_16 (by decide) ?_
      exact W.zret (v := 0) hx hb hr rfl (fun t h9 _ => ⟨congrArg (fun z => Outcome.returned (some (Value.int z))) (by unfold fn_D_has; rw [if_neg c1, if_pos c2]), h9⟩) (fun _ h => nomatch h) d_D_has_17
    · refine lv_iconst (v := 1) hx hb d_D_has_12 (by decide) ?_
      refine lv_goto (tgt := 17) hx hb d_D_has_13 (by decide) ?_
      exact W.zret (v := 1) hx hb hr rfl (fun t h9 _ => ⟨congrArg (fun z => Outcome.returned (some (Value.int z))) (by unfold fn_D_has; rw [if_neg c1, if_neg c2]), h9⟩) (fun _ h => nomatch h) d_D_has_17
theorem has_in {n : Nat} {p1 : Int32} (hn : n ≤ 16) (h : ¬ fn_D_has n p1 = 0) : vp_in p1 16 := by
  unfold fn_D_has at h
  split at h
  · exact absurd rfl h
  · split at h
    · exact absurd rfl h
    · rename_i h1 h2
      obtain ⟨j, hj, rfl⟩ := nI_of h1
      have h3 : j < n := Nat.lt_of_not_le (fun q => h2 (nI_le q hj))
      exact vp_in_nI (by omega) (by omega)
def fn_D_allBits (n : Nat) : Int32 := (((1 : Int32) <<< ((nI n) &&& 31)) - 1)
set_option maxHeartbeats 4000000 in
set_option maxRecDepth 100000 in
theorem c_D_allBits (l : Launch) (G : GT) (H : Heap) (a : Nat) (b : Nat) (sd : Int64) (k : Int32) (n : Nat) (fb : Int32) (f : Nat → Int64) (hP : va_P G.1 classes [(a, .inr (1, [.ref b, .long sd, .int k, .int (nI n), .int fb])), (b, .inl (G.2.1, 16, .inr (.inl f)))] H) (hn : n ≤ 16) : Met l y_D_allBits (Cond.code y_D_allBits b_D_allBits 1 (some .int) :: TG) ({ frames := 0, cells := 0, slots := 0, locals := 0 }) (PC G H [.ref a]) (QcRead (fn_D_allBits n)) 0 0 (fun _ => False) := by
  refine Met.ofW (cc := b_D_allBits) (maxL := 1) (ret := (some .int)) (by decide) rfl ?_
  intro p e s m args below meth c s₁ B hml hv
  obtain ⟨rfl, hH, hKN⟩ := hv
  subst hH
  have hx := B.exec
  have hb := B.bytes
  have hr := B.returns
  have hts := atoms_spec (ws := (Cond.code y_D_allBits b_D_allBits 1 (some .int) :: TG)) B.pre
  have ht : ∀ w ∈ TG, w.before _ s = true := fun w h => hts w (List.mem_cons_of_mem _ h)
  have hown : s.vm.findClass R_D = some m.cls := findClass_of_methodNamed B.named
  have hlocks := B.notSynchronized
  have hK := hKN.1
  have hl := lv_entry ([.ref a]) (n := 1) (Nat.le_of_ble_eq_true rfl)
  rw [lg_entry_eq]
  generalize (lg_sl ([.ref a]) ++ List.replicate (1 - (lg_sl ([.ref a])).length) Slot.unset).toArray = ls at hl ⊢
  have hl : lv_has ls 1 [(0, .ref a)] := hl
  refine lv_iconst (v := 1) hx hb d_D_allBits_0 (by decide) ?_
  refine lv_aload_n hx hb d_D_allBits_1 rfl (lv_at hl 0 rfl) ?_
  refine va_get (D := G.1) (ci := 1) (v := .int (nI n)) (C := R_D) (T := F_D) (N := 5) hx hb ht in_D hown hK hP 0 rfl rfl 3 (by decide) (ht _ kf_D_23) (fun _ h9 => h9) rfl d_D_allBits_2 ?_
  refine lv_ishl hx hb d_D_allBits_5 ?_
  refine lv_iconst (v := 1) hx hb d_D_allBits_6 (by decide) ?_
  refine lv_isub hx hb d_D_allBits_7 ?_
  exact W.iret (v := (((1 : Int32) <<< ((nI n) &&& 31)) - 1)) hx hb hr (fun t h9 _ => ⟨congrArg (fun z => Outcome.returned (some (Value.int z))) rfl, h9⟩) (fun _ h => nomatch h) d_D_allBits_8
def fn_D_hasFaults (n : Nat) (fb : Int32) (p1 : Int32) : Int32 := (if (fn_D_has n p1) = 0 then 0 else (if ((fb >>> (p1 &&& 31)) &&& 1) = 0 then 0 else 1))
set_option maxHeartbeats 4000000 in
set_option maxRecDepth 100000 in
theorem c_D_hasFaults (l : Launch) (G : GT) (H : Heap) (a : Nat) (b : Nat) (sd : Int64) (k : Int32) (n : Nat) (fb : Int32) (f : Nat → Int64) (p1 : Int32) (hP : va_P G.1 classes [(a, .inr (1, [.ref b, .long sd, .int k, .int (nI n), .int fb])), (b, .inl (G.2.1, 16, .inr (.inl f)))] H) (hn : n ≤ 16) : Met l y_D_hasFaults (Cond.code y_D_hasFaults b_D_hasFaults 2 (some .boolean) :: TG) ({ frames := 1, cells := 0, slots := 0, locals := 21 }) (PC G H [.ref a, .int p1]) (QcRead (fn_D_hasFaults n fb p1)) 0 0 (fun _ => False) := by
  refine Met.ofW (cc := b_D_hasFaults) (maxL := 2) (ret := (some .boolean)) (by decide) rfl ?_
  intro p e s m args below meth c s₁ B hml hv
  obtain ⟨rfl, hH, hKN⟩ := hv
  subst hH
  have hx := B.exec
  have hb := B.bytes
  have hr := B.returns
  have hts := atoms_spec (ws := (Cond.code y_D_hasFaults b_D_hasFaults 2 (some .boolean) :: TG)) B.pre
  have ht : ∀ w ∈ TG, w.before _ s = true := fun w h => hts w (List.mem_cons_of_mem _ h)
  have hown : s.vm.findClass R_D = some m.cls := findClass_of_methodNamed B.named
  have hlocks := B.notSynchronized
  have hK := hKN.1
  have hl := lv_entry ([.ref a, .int p1]) (n := 2) (Nat.le_of_ble_eq_true rfl)
  rw [lg_entry_eq]
  generalize (lg_sl ([.ref a, .int p1]) ++ List.replicate (2 - (lg_sl ([.ref a, .int p1])).length) Slot.unset).toArray = ls at hl ⊢
  have hl : lv_has ls 2 [(0, .ref a), (1, .int p1)] := hl
  refine lv_aload_n hx hb d_D_hasFaults_0 rfl (lv_at hl 0 rfl) ?_
  refine lv_iload_n hx hb d_D_hasFaults_1 rfl (lv_at hl 1 rfl) ?_
  refine pr_i (ru_V (b := a) (As := [.int p1]) (rest := []) ⟨hx, hb, hml, hown, ht⟩ hKN (c_D_has l G _ a b sd k n fb f p1 (hP.sub [0, 1] rfl) hn) kc_D_46 ⟨rfl, rfl⟩ ⟨Nat.le_of_ble_eq_true rfl, Nat.le_of_ble_eq_true rfl⟩ (va_recv hK hP (ci := 1) (q0 := 0) rfl rfl) rfl hl.1 rfl (Nat.le_of_ble_eq_true rfl) d_D_hasFaults_2 ⟨Nat.le_of_ble_eq_true rfl, Nat.le_of_ble_eq_true rfl⟩) ?_
  refine lv_if_eq (tgt := 23) hx hb d_D_hasFaults_5 (by decide) (fun c1 => ?_) (fun c1 => ?_)
  · refine lv_iconst (v := 0) hx hb d_D_hasFaults_23 (by decide) ?_
    exact W.zret (v := 0) hx hb hr rfl (fun t h9 _ => ⟨congrArg (fun z => Outcome.returned (some (Value.int z))) (by unfold fn_D_hasFaults; rw [if_pos c1]), h9⟩) (fun _ h => nomatch h) d_D_hasFaults_24
  · refine lv_aload_n hx hb d_D_hasFaults_8 rfl (lv_at hl 0 rfl) ?_
    refine va_get (D := G.1) (ci := 1) (v := .int fb) (C := R_D) (T := F_D) (N := 5) hx hb ht in_D hown hK hP 0 rfl rfl 4 (by decide) (ht _ kf_D_26) (fun _ h9 => h9) rfl d_D_hasFaults_9 ?_
    refine lv_iload_n hx hb d_D_hasFaults_12 rfl (lv_at hl 1 rfl) ?_
    refine lv_ishr hx hb d_D_hasFaults_13 ?_
    refine lv_iconst (v := 1) hx hb d_D_hasFaults_14 (by decide) ?_
    refine lv_iand hx hb d_D_hasFaults_15 ?_
    refine lv_if_eq (tgt := 23) hx hb d_D_hasFaults_16 (by decide) (fun c2 => ?_) (fun c2 => ?_)
    · refine lv_iconst (v := 0) hx hb d_D_hasFaults_23 (by decide) ?_
      exact W.zret (v := 0) hx hb hr rfl (fun t h9 _ => ⟨congrArg (fun z => Outcome.returned (some (Value.int z))) (by unfold fn_D_hasFaults; rw [if_neg c1, if_pos c2]), h9⟩) (fun _ h => nomatch h) d_D_hasFaults_24
    · refine lv_iconst (v := 1) hx hb d_D_hasFaults_19 (by decide) ?_
      refine lv_goto (tgt := 24) hx hb d_D_hasFaults_20 (by decide) ?_
      exact W.zret (v := 1) hx hb hr rfl (fun t h9 _ => ⟨congrArg (fun z => Outcome.returned (some (Value.int z))) (by unfold fn_D_hasFaults; rw [if_neg c1, if_neg c2]), h9⟩) (fun _ h => nomatch h) d_D_hasFaults_24
theorem sw_out {x : Int32} (h1 : ¬ x = 1) (h2 : ¬ x = 2) (h3 : ¬ x = 3) (h4 : ¬ x = 4) : x.toInt < 1 ∨ 4 < x.toInt := by
  have e1 : ¬ x.toInt = 1 := fun q => h1 (Int32.toInt_inj.mp q)
  have e2 : ¬ x.toInt = 2 := fun q => h2 (Int32.toInt_inj.mp q)
  have e3 : ¬ x.toInt = 3 := fun q => h3 (Int32.toInt_inj.mp q)
  have e4 : ¬ x.toInt = 4 := fun q => h4 (Int32.toInt_inj.mp q)
  omega
def fn_D_fact (n : Nat) (f : Nat → Int64) (p1 : Int32) (p2 : Int32) : Int32 := (if (fn_D_has n p1) = 0 then (-1) else (if p2 = 1 then (((2 * ((((f p1.toNatClampNeg).toUInt64 >>> ((1 : Int32).toInt64.toUInt64 &&& Int64.toUInt64 63)).toInt64) - (((f p1.toNatClampNeg).toUInt64 >>> ((1 : Int32).toInt64.toUInt64 &&& Int64.toUInt64 63)).toInt64) / 50 * 50)) + ((f p1.toNatClampNeg) &&& 1)).toInt32) else (if p2 = 2 then (((((f p1.toNatClampNeg).toUInt64 >>> ((8 : Int32).toInt64.toUInt64 &&& Int64.toUInt64 63)).toInt64) - (((f p1.toNatClampNeg).toUInt64 >>> ((8 : Int32).toInt64.toUInt64 &&& Int64.toUInt64 63)).toInt64) / 1000 * 1000).toInt32) else (if p2 = 3 then (((((f p1.toNatClampNeg).toUInt64 >>> ((24 : Int32).toInt64.toUInt64 &&& Int64.toUInt64 63)).toInt64) - (((f p1.toNatClampNeg).toUInt64 >>> ((24 : Int32).toInt64.toUInt64 &&& Int64.toUInt64 63)).toInt64) / 24 * 24).toInt32) else (if p2 = 4 then (((((f p1.toNatClampNeg).toUInt64 >>> ((40 : Int32).toInt64.toUInt64 &&& Int64.toUInt64 63)).toInt64) - (((f p1.toNatClampNeg).toUInt64 >>> ((40 : Int32).toInt64.toUInt64 &&& Int64.toUInt64 63)).toInt64) / 2 * 2).toInt32) else (-1))))))
set_option maxHeartbeats 4000000 in
set_option maxRecDepth 100000 in
theorem c_D_fact (l : Launch) (G : GT) (H : Heap) (a : Nat) (b : Nat) (sd : Int64) (k : Int32) (n : Nat) (fb : Int32) (f : Nat → Int64) (p1 : Int32) (p2 : Int32) (hP : va_P G.1 classes [(a, .inr (1, [.ref b, .long sd, .int k, .int (nI n), .int fb])), (b, .inl (G.2.1, 16, .inr (.inl f)))] H) (hn : n ≤ 16) : Met l y_D_fact (Cond.code y_D_fact b_D_fact 5 (some .int) :: TG) ({ frames := 1, cells := 0, slots := 0, locals := 21 }) (PC G H [.ref a, .int p1, .int p2]) (QcRead (fn_D_fact n f p1 p2)) 0 0 (fun _ => False) := by
  refine Met.ofW (cc := b_D_fact) (maxL := 5) (ret := (some .int)) (by decide) rfl ?_
  intro p e s m args below meth c s₁ B hml hv
  obtain ⟨rfl, hH, hKN⟩ := hv
  subst hH
  have hx := B.exec
  have hb := B.bytes
  have hr := B.returns
  have hts := atoms_spec (ws := (Cond.code y_D_fact b_D_fact 5 (some .int) :: TG)) B.pre
  have ht : ∀ w ∈ TG, w.before _ s = true := fun w h => hts w (List.mem_cons_of_mem _ h)
  have hown : s.vm.findClass R_D = some m.cls := findClass_of_methodNamed B.named
  have hlocks := B.notSynchronized
  have hK := hKN.1
  have hl := lv_entry ([.ref a, .int p1, .int p2]) (n := 5) (Nat.le_of_ble_eq_true rfl)
  rw [lg_entry_eq]
  generalize (lg_sl ([.ref a, .int p1, .int p2]) ++ List.replicate (5 - (lg_sl ([.ref a, .int p1, .int p2])).length) Slot.unset).toArray = ls at hl ⊢
  have hl : lv_has ls 5 [(0, .ref a), (1, .int p1), (2, .int p2)] := hl
  refine lv_aload_n hx hb d_D_fact_0 rfl (lv_at hl 0 rfl) ?_
  refine lv_iload_n hx hb d_D_fact_1 rfl (lv_at hl 1 rfl) ?_
  refine pr_i (ru_V (b := a) (As := [.int p1]) (rest := []) ⟨hx, hb, hml, hown, ht⟩ hKN (c_D_has l G _ a b sd k n fb f p1 (hP.sub [0, 1] rfl) hn) kc_D_46 ⟨rfl, rfl⟩ ⟨Nat.le_of_ble_eq_true rfl, Nat.le_of_ble_eq_true rfl⟩ (va_recv hK hP (ci := 1) (q0 := 0) rfl rfl) rfl hl.1 rfl (Nat.le_of_ble_eq_true rfl) d_D_fact_2 ⟨Nat.le_of_ble_eq_true rfl, Nat.le_of_ble_eq_true rfl⟩) ?_
  refine lv_if_ne (tgt := 10) hx hb d_D_fact_5 (by decide) (fun c1 => ?_) (fun c1 => ?_)
  · refine lv_aload_n hx hb d_D_fact_10 rfl (lv_at hl 0 rfl) ?_
    refine va_get (D := G.1) (ci := 1) (v := .ref b) (C := R_D) (T := F_D) (N := 5) hx hb ht in_D hown hK hP 0 rfl rfl 0 (by decide) (ht _ kf_D_9) (fun _ h9 => h9) rfl d_D_fact_11 ?_
    refine lv_iload_n hx hb d_D_fact_14 rfl (lv_at hl 1 rfl) ?_
    refine va_lald hx hb hK hP 1 0 rfl rfl (i := p1) (has_in hn c1) d_D_fact_15 ?_
    refine lv_lstore_n (lv' := [(3, .long (f p1.toNatClampNeg)), (0, .ref a), (1, .int p1), (2, .int p2)]) hx hb d_D_fact_16 rfl hl (by decide) rfl (fun ls hl => ?_)
    refine lv_iload_n hx hb d_D_fact_17 rfl (lv_at hl 3 rfl) ?_
    by_cases c2 : p2 = 1
    · subst c2
      refine lv_tableIn (tgt := 48) hx hb d_D_fact_18 (by decide) (by decide) rfl (by decide) ?_
      refine lv_ldc2 (v := 2) hx hb hown (ht _ kl_D_50) d_D_fact_48 ?_
      refine lv_lload_n hx hb d_D_fact_51 rfl (lv_at hl 0 rfl) ?_
      refine lv_iconst (v := 1) hx hb d_D_fact_52 (by decide) ?_
      refine lv_lushr hx hb d_D_fact_53 rfl ?_
      refine lv_ldc2 (v := 50) hx hb hown (ht _ kl_D_52) d_D_fact_54 ?_
      refine lv_lrem hx hb d_D_fact_57 (by decide) ?_
      refine lv_lmul hx hb d_D_fact_58 ?_
      refine lv_lload_n hx hb d_D_fact_59 rfl (lv_at hl 0 rfl) ?_
      refine lv_lconst (v := 1) hx hb d_D_fact_60 (by decide) ?_
      refine lv_land hx hb d_D_fact_61 ?_
      refine lv_ladd hx hb d_D_fact_62 ?_
      refine lv_l2i hx hb d_D_fact_63 rfl ?_
      exact W.iret (v := (((2 * ((((f p1.toNatClampNeg).toUInt64 >>> ((1 : Int32).toInt64.toUInt64 &&& Int64.toUInt64 63)).toInt64) - (((f p1.toNatClampNeg).toUInt64 >>> ((1 : Int32).toInt64.toUInt64 &&& Int64.toUInt64 63)).toInt64) / 50 * 50)) + ((f p1.toNatClampNeg) &&& 1)).toInt32)) hx hb hr (fun t h9 _ => ⟨congrArg (fun z => Outcome.returned (some (Value.int z))) (by unfold fn_D_fact; rw [if_neg c1, if_pos rfl]), h9⟩) (fun _ h => nomatch h) d_D_fact_64
    by_cases c3 : p2 = 2
    · subst c3
      refine lv_tableIn (tgt := 65) hx hb d_D_fact_18 (by decide) (by decide) rfl (by decide) ?_
      refine lv_lload_n hx hb d_D_fact_65 rfl (lv_at hl 0 rfl) ?_
      refine lv_bipush (v := 8) hx hb d_D_fact_66 (by decide) ?_
      refine lv_lushr hx hb d_D_fact_68 rfl ?_
      refine lv_ldc2 (v := 1000) hx hb hown (ht _ kl_D_54) d_D_fact_69 ?_
      refine lv_lrem hx hb d_D_fact_72 (by decide) ?_
      refine lv_l2i hx hb d_D_fact_73 rfl ?_
      exact W.iret (v := (((((f p1.toNatClampNeg).toUInt64 >>> ((8 : Int32).toInt64.toUInt64 &&& Int64.toUInt64 63)).toInt64) - (((f p1.toNatClampNeg).toUInt64 >>> ((8 : Int32).toInt64.toUInt64 &&& Int64.toUInt64 63)).toInt64) / 1000 * 1000).toInt32)) hx hb hr (fun t h9 _ => ⟨congrArg (fun z => Outcome.returned (some (Value.int z))) (by unfold fn_D_fact; rw [if_neg c1, if_neg (by decide : ¬ (2 : Int32) = 1), if_pos rfl]), h9⟩) (fun _ h => nomatch h) d_D_fact_74
    by_cases c4 : p2 = 3
    · subst c4
      refine lv_tableIn (tgt := 75) hx hb d_D_fact_18 (by decide) (by decide) rfl (by decide) ?_
      refine lv_lload_n hx hb d_D_fact_75 rfl (lv_at hl 0 rfl) ?_
      refine lv_bipush (v := 24) hx hb d_D_fact_76 (by decide) ?_
      refine lv_lushr hx hb d_D_fact_78 rfl ?_
      refine lv_ldc2 (v := 24) hx hb hown (ht _ kl_D_56) d_D_fact_79 ?_
      refine lv_lrem hx hb d_D_fact_82 (by decide) ?_
      refine lv_l2i hx hb d_D_fact_83 rfl ?_
      exact W.iret (v := (((((f p1.toNatClampNeg).toUInt64 >>> ((24 : Int32).toInt64.toUInt64 &&& Int64.toUInt64 63)).toInt64) - (((f p1.toNatClampNeg).toUInt64 >>> ((24 : Int32).toInt64.toUInt64 &&& Int64.toUInt64 63)).toInt64) / 24 * 24).toInt32)) hx hb hr (fun t h9 _ => ⟨congrArg (fun z => Outcome.returned (some (Value.int z))) (by unfold fn_D_fact; rw [if_neg c1, if_neg (by decide : ¬ (3 : Int32) = 1), if_neg (by decide : ¬ (3 : Int32) = 2), if_pos rfl]), h9⟩) (fun _ h => nomatch h) d_D_fact_84
    by_cases c5 : p2 = 4
    · subst c5
      refine lv_tableIn (tgt := 85) hx hb d_D_fact_18 (by decide) (by decide) rfl (by decide) ?_
      refine lv_lload_n hx hb d_D_fact_85 rfl (lv_at hl 0 rfl) ?_
      refine lv_bipush (v := 40) hx hb d_D_fact_86 (by decide) ?_
      refine lv_lushr hx hb d_D_fact_88 rfl ?_
      refine lv_ldc2 (v := 2) hx hb hown (ht _ kl_D_50) d_D_fact_89 ?_
      refine lv_lrem hx hb d_D_fact_92 (by decide) ?_
      refine lv_l2i hx hb d_D_fact_93 rfl ?_
      exact W.iret (v := (((((f p1.toNatClampNeg).toUInt64 >>> ((40 : Int32).toInt64.toUInt64 &&& Int64.toUInt64 63)).toInt64) - (((f p1.toNatClampNeg).toUInt64 >>> ((40 : Int32).toInt64.toUInt64 &&& Int64.toUInt64 63)).toInt64) / 2 * 2).toInt32)) hx hb hr (fun t h9 _ => ⟨congrArg (fun z => Outcome.returned (some (Value.int z))) (by unfold fn_D_fact; rw [if_neg c1, if_neg (by decide : ¬ (4 : Int32) = 1), if_neg (by decide : ¬ (4 : Int32) = 2), if_neg (by decide : ¬ (4 : Int32) = 3), if_pos rfl]), h9⟩) (fun _ h => nomatch h) d_D_fact_94
    refine lv_tableOut (tgt := 95) hx hb d_D_fact_18 (sw_out c2 c3 c4 c5) (by decide) ?_
    refine lv_iconst (v := (-1)) hx hb d_D_fact_95 (by decide) ?_
    exact W.iret (v := (-1)) hx hb hr (fun t h9 _ => ⟨congrArg (fun z => Outcome.returned (some (Value.int z))) (by unfold fn_D_fact; rw [if_neg c1, if_neg c2, if_neg c3, if_neg c4, if_neg c5]), h9⟩) (fun _ h => nomatch h) d_D_fact_96
  · refine lv_iconst (v := (-1)) hx hb d_D_fact_8 (by decide) ?_
    exact W.iret (v := (-1)) hx hb hr (fun t h9 _ => ⟨congrArg (fun z => Outcome.returned (some (Value.int z))) (by unfold fn_D_fact; rw [if_pos c1]), h9⟩) (fun _ h => nomatch h) d_D_fact_9
def fn_D_isAbove (n : Nat) (f : Nat → Int64) (p1 : Int32) (p2 : Int32) : Int32 := (if (fn_D_has n p1) = 0 then 0 else (if (fn_D_has n p2) = 0 then 0 else (if 0 < (lg_cmp ((f p1.toNatClampNeg) ^^^ (-9223372036854775808)) ((f p2.toNatClampNeg) ^^^ (-9223372036854775808))) then 1 else (if (lg_cmp ((f p1.toNatClampNeg) ^^^ (-9223372036854775808)) ((f p2.toNatClampNeg) ^^^ (-9223372036854775808))) = 0 then (if p1 ≤ p2 then 0 else 1) else 0))))
set_option maxHeartbeats 4000000 in
set_option maxRecDepth 100000 in
theorem c_D_isAbove (l : Launch) (G : GT) (H : Heap) (a : Nat) (b : Nat) (sd : Int64) (k : Int32) (n : Nat) (fb : Int32) (f : Nat → Int64) (p1 : Int32) (p2 : Int32) (hP : va_P G.1 classes [(a, .inr (1, [.ref b, .long sd, .int k, .int (nI n), .int fb])), (b, .inl (G.2.1, 16, .inr (.inl f)))] H) (hn : n ≤ 16) : Met l y_D_isAbove (Cond.code y_D_isAbove b_D_isAbove 7 (some .boolean) :: TG) ({ frames := 1, cells := 0, slots := 0, locals := 21 }) (PC G H [.ref a, .int p1, .int p2]) (QcRead (fn_D_isAbove n f p1 p2)) 0 0 (fun _ => False) := by
  refine Met.ofW (cc := b_D_isAbove) (maxL := 7) (ret := (some .boolean)) (by decide) rfl ?_
  intro p e s m args below meth c s₁ B hml hv
  obtain ⟨rfl, hH, hKN⟩ := hv
  subst hH
  have hx := B.exec
  have hb := B.bytes
  have hr := B.returns
  have hts := atoms_spec (ws := (Cond.code y_D_isAbove b_D_isAbove 7 (some .boolean) :: TG)) B.pre
  have ht : ∀ w ∈ TG, w.before _ s = true := fun w h => hts w (List.mem_cons_of_mem _ h)
  have hown : s.vm.findClass R_D = some m.cls := findClass_of_methodNamed B.named
  have hlocks := B.notSynchronized
  have hK := hKN.1
  have hl := lv_entry ([.ref a, .int p1, .int p2]) (n := 7) (Nat.le_of_ble_eq_true rfl)
  rw [lg_entry_eq]
  generalize (lg_sl ([.ref a, .int p1, .int p2]) ++ List.replicate (7 - (lg_sl ([.ref a, .int p1, .int p2])).length) Slot.unset).toArray = ls at hl ⊢
  have hl : lv_has ls 7 [(0, .ref a), (1, .int p1), (2, .int p2)] := hl
  refine lv_aload_n hx hb d_D_isAbove_0 rfl (lv_at hl 0 rfl) ?_
  refine lv_iload_n hx hb d_D_isAbove_1 rfl (lv_at hl 1 rfl) ?_
  refine pr_i (ru_V (b := a) (As := [.int p1]) (rest := []) ⟨hx, hb, hml, hown, ht⟩ hKN (c_D_has l G _ a b sd k n fb f p1 (hP.sub [0, 1] rfl) hn) kc_D_46 ⟨rfl, rfl⟩ ⟨Nat.le_of_ble_eq_true rfl, Nat.le_of_ble_eq_true rfl⟩ (va_recv hK hP (ci := 1) (q0 := 0) rfl rfl) rfl hl.1 rfl (Nat.le_of_ble_eq_true rfl) d_D_isAbove_2 ⟨Nat.le_of_ble_eq_true rfl, Nat.le_of_ble_eq_true rfl⟩) ?_
  refine lv_if_eq (tgt := 16) hx hb d_D_isAbove_5 (by decide) (fun c1 => ?_) (fun c1 => ?_)
  · refine lv_iconst (v := 0) hx hb d_D_isAbove_16 (by decide) ?_
    exact W.zret (v := 0) hx hb hr rfl (fun t h9 _ => ⟨congrArg (fun z => Outcome.returned (some (Value.int z))) (by unfold fn_D_isAbove; rw [if_pos c1]), h9⟩) (fun _ h => nomatch h) d_D_isAbove_17
  · refine lv_aload_n hx hb d_D_isAbove_8 rfl (lv_at hl 0 rfl) ?_
    refine lv_iload_n hx hb d_D_isAbove_9 rfl (lv_at hl 2 rfl) ?_
    refine pr_i (ru_V (b := a) (As := [.int p2]) (rest := []) ⟨hx, hb, hml, hown, ht⟩ hKN (c_D_has l G _ a b sd k n fb f p2 (hP.sub [0, 1] rfl) hn) kc_D_46 ⟨rfl, rfl⟩ ⟨Nat.le_of_ble_eq_true rfl, Nat.le_of_ble_eq_true rfl⟩ (va_recv hK hP (ci := 1) (q0 := 0) rfl rfl) rfl hl.1 rfl (Nat.le_of_ble_eq_true rfl) d_D_isAbove_10 ⟨Nat.le_of_ble_eq_true rfl, Nat.le_of_ble_eq_true rfl⟩) ?_
    refine lv_if_ne (tgt := 18) hx hb d_D_isAbove_13 (by decide) (fun c2 => ?_) (fun c2 => ?_)
    · refine lv_aload_n hx hb d_D_isAbove_18 rfl (lv_at hl 0 rfl) ?_
      refine va_get (D := G.1) (ci := 1) (v := .ref b) (C := R_D) (T := F_D) (N := 5) hx hb ht in_D hown hK hP 0 rfl rfl 0 (by decide) (ht _ kf_D_9) (fun _ h9 => h9) rfl d_D_isAbove_19 ?_
      refine lv_iload_n hx hb d_D_isAbove_22 rfl (lv_at hl 1 rfl) ?_
      refine va_lald hx hb hK hP 1 0 rfl rfl (i := p1) (has_in hn c1) d_D_isAbove_23 ?_
      refine lv_ldc2 (v := (-9223372036854775808)) hx hb hown (ht _ kl_D_68) d_D_isAbove_24 ?_
      refine lv_lxor hx hb d_D_isAbove_27 ?_
      refine lv_lstore_n (lv' := [(3, .long ((f p1.toNatClampNeg) ^^^ (-9223372036854775808))), (0, .ref a), (1, .int p1), (2, .int p2)]) hx hb d_D_isAbove_28 rfl hl (by decide) rfl (fun ls hl => ?_)
      refine lv_aload_n hx hb d_D_isAbove_29 rfl (lv_at hl 1 rfl) ?_
      refine va_get (D := G.1) (ci := 1) (v := .ref b) (C := R_D) (T := F_D) (N := 5) hx hb ht in_D hown hK hP 0 rfl rfl 0 (by decide) (ht _ kf_D_9) (fun _ h9 => h9) rfl d_D_isAbove_30 ?_
      refine lv_iload_n hx hb d_D_isAbove_33 rfl (lv_at hl 3 rfl) ?_
      refine va_lald hx hb hK hP 1 0 rfl rfl (i := p2) (has_in hn c2) d_D_isAbove_34 ?_
      refine lv_ldc2 (v := (-9223372036854775808)) hx hb hown (ht _ kl_D_68) d_D_isAbove_35 ?_
      refine lv_lxor hx hb d_D_isAbove_38 ?_
      refine lv_lstore (lv' := [(5, .long ((f p2.toNatClampNeg) ^^^ (-9223372036854775808))), (3, .long ((f p1.toNatClampNeg) ^^^ (-9223372036854775808))), (0, .ref a), (1, .int p1), (2, .int p2)]) hx hb d_D_isAbove_39 hl (by decide) rfl (fun ls hl => ?_)
      refine lv_lload_n hx hb d_D_isAbove_41 rfl (lv_at hl 1 rfl) ?_
      refine lv_lload hx hb d_D_isAbove_42 (lv_at hl 0 rfl) ?_
      refine W.lcmp hx hb d_D_isAbove_44 ?_
      refine lv_if_gt (tgt := 60) hx hb d_D_isAbove_45 (by decide) (fun c3 => ?_) (fun c3 => ?_)
      · refine lv_iconst (v := 1) hx hb d_D_isAbove_60 (by decide) ?_
        refine lv_goto (tgt := 65) hx hb d_D_isAbove_61 (by decide) ?_
        exact W.zret (v := 1) hx hb hr rfl (fun t h9 _ => ⟨congrArg (fun z => Outcome.returned (some (Value.int z))) (by unfold fn_D_isAbove; rw [if_neg c1, if_neg c2, if_pos c3]), h9⟩) (fun _ h => nomatch h) d_D_isAbove_65
      · refine lv_lload_n hx hb d_D_isAbove_48 rfl (lv_at hl 1 rfl) ?_
        refine lv_lload hx hb d_D_isAbove_49 (lv_at hl 0 rfl) ?_
        refine W.lcmp hx hb d_D_isAbove_51 ?_
        refine lv_if_ne (tgt := 64) hx hb d_D_isAbove_52 (by decide) (fun c4 => ?_) (fun c4 => ?_)
        · refine lv_iconst (v := 0) hx hb d_D_isAbove_64 (by decide) ?_
          exact W.zret (v := 0) hx hb hr rfl (fun t h9 _ => ⟨congrArg (fun z => Outcome.returned (some (Value.int z))) (by unfold fn_D_isAbove; rw [if_neg c1, if_neg c2, if_neg c3, if_neg c4]), h9⟩) (fun _ h => nomatch h) d_D_isAbove_65
        · refine lv_iload_n hx hb d_D_isAbove_55 rfl (lv_at hl 3 rfl) ?_
          refine lv_iload_n hx hb d_D_isAbove_56 rfl (lv_at hl 4 rfl) ?_
          refine lv_icmp_le (tgt := 64) hx hb d_D_isAbove_57 (by decide) (fun c5 => ?_) (fun c5 => ?_)
          · refine lv_iconst (v := 0) hx hb d_D_isAbove_64 (by decide) ?_
            exact W.zret (v := 0) hx hb hr rfl (fun t h9 _ => ⟨congrArg (fun z => Outcome.returned (some (Value.int z))) (by unfold fn_D_isAbove; rw [if_neg c1, if_neg c2, if_neg c3, if_pos c4, if_pos c5]), h9⟩) (fun _ h => nomatch h) d_D_isAbove_65
          · refine lv_iconst (v := 1) hx hb d_D_isAbove_60 (by decide) ?_
            refine lv_goto (tgt := 65) hx hb d_D_isAbove_61 (by decide) ?_
            exact W.zret (v := 1) hx hb hr rfl (fun t h9 _ => ⟨congrArg (fun z => Outcome.returned (some (Value.int z))) (by unfold fn_D_isAbove; rw [if_neg c1, if_neg c2, if_neg c3, if_pos c4, if_neg c5]), h9⟩) (fun _ h => nomatch h) d_D_isAbove_65
    · refine lv_iconst (v := 0) hx hb d_D_isAbove_16 (by decide) ?_
      exact W.zret (v := 0) hx hb hr rfl (fun t h9 _ => ⟨congrArg (fun z => Outcome.returned (some (Value.int z))) (by unfold fn_D_isAbove; rw [if_neg c1, if_pos c2]), h9⟩) (fun _ h => nomatch h) d_D_isAbove_17
def zA (z : Int64) : Int64 := (z ^^^ (z.toUInt64 >>> ((30 : Int32).toInt64.toUInt64 &&& Int64.toUInt64 63)).toInt64) * (-4658895280553007687)
def zB (z : Int64) : Int64 := (z ^^^ (z.toUInt64 >>> ((27 : Int32).toInt64.toUInt64 &&& Int64.toUInt64 63)).toInt64) * (-7723592293110705685)
def zC (z : Int64) : Int64 := z ^^^ (z.toUInt64 >>> ((31 : Int32).toInt64.toUInt64 &&& Int64.toUInt64 63)).toInt64
/-- THE NUMBER of a seed, a kind and a place -/
def zN (sd : Int64) (k i : Int32) : Int64 := zC (zB (zA (sd + ((1 + i.toInt64) + 64 * k.toInt64) * (-7046029254386353131))))
set_option maxHeartbeats 4000000 in
set_option maxRecDepth 100000 in
theorem c_P_number (l : Launch) (G : GT) (H : Heap) (sd : Int64) (k : Int32) (i : Int32) : Met l y_P_number (Cond.code y_P_number b_P_number 6 (some .long) :: TG) ({ frames := 0, cells := 0, slots := 0, locals := 0 }) (PC G H [.long sd, .int k, .int i]) (QcReadL (zN sd k i)) 0 0 (fun _ => False) := by
  refine Met.ofW (cc := b_P_number) (maxL := 6) (ret := (some .long)) (by decide) rfl ?_
  intro p e s m args below meth c s₁ B hml hv
  obtain ⟨rfl, hH, hKN⟩ := hv
  subst hH
  have hx := B.exec
  have hb := B.bytes
  have hr := B.returns
  have hts := atoms_spec (ws := (Cond.code y_P_number b_P_number 6 (some .long) :: TG)) B.pre
  have ht : ∀ w ∈ TG, w.before _ s = true := fun w h => hts w (List.mem_cons_of_mem _ h)
  have hown : s.vm.findClass R_P = some m.cls := findClass_of_methodNamed B.named
  have hlocks := B.notSynchronized
  have hK := hKN.1
  have hl := lv_entry ([.long sd, .int k, .int i]) (n := 6) (Nat.le_of_ble_eq_true rfl)
  rw [lg_entry_eq]
  generalize (lg_sl ([.long sd, .int k, .int i]) ++ List.replicate (6 - (lg_sl ([.long sd, .int k, .int i])).length) Slot.unset).toArray = ls at hl ⊢
  have hl : lv_has ls 6 [(0, .long sd), (2, .int k), (3, .int i)] := hl
  refine lv_lload_n hx hb d_P_number_0 rfl (lv_at hl 0 rfl) ?_
  refine lv_lconst (v := 1) hx hb d_P_number_1 (by decide) ?_
  refine lv_iload_n hx hb d_P_number_2 rfl (lv_at hl 2 rfl) ?_
  refine lv_i2l hx hb d_P_number_3 rfl ?_
  refine lv_ladd hx hb d_P_number_4 ?_
  refine lv_ldc2 (v := 64) hx hb hown (ht _ kl_P_123) d_P_number_5 ?_
  refine lv_iload_n hx hb d_P_number_8 rfl (lv_at hl 1 rfl) ?_
  refine lv_i2l hx hb d_P_number_9 rfl ?_
  refine lv_lmul hx hb d_P_number_10 ?_
  refine lv_ladd hx hb d_P_number_11 ?_
  refine lv_ldc2 (v := (-7046029254386353131)) hx hb hown (ht _ kl_P_125) d_P_number_12 ?_
  refine lv_lmul hx hb d_P_number_15 ?_
  refine lv_ladd hx hb d_P_number_16 ?_
  refine lv_topl (fun v1 e1 => ?_)
  refine lv_lstore (lv' := [(4, .long v1), (0, .long sd), (2, .int k), (3, .int i)]) hx hb d_P_number_17 hl (by decide) rfl (fun ls hl => ?_)
  refine lv_lload hx hb d_P_number_19 (lv_at hl 0 rfl) ?_
  refine lv_lload hx hb d_P_number_21 (lv_at hl 0 rfl) ?_
  refine lv_bipush (v := 30) hx hb d_P_number_23 (by decide) ?_
  refine lv_lushr hx hb d_P_number_25 rfl ?_
  refine lv_lxor hx hb d_P_number_26 ?_
  refine lv_ldc2 (v := (-4658895280553007687)) hx hb hown (ht _ kl_P_127) d_P_number_27 ?_
  refine lv_lmul hx hb d_P_number_30 ?_
  refine lv_topl (fun v2 e2 => ?_)
  refine lv_lstore (lv' := [(4, .long v2), (0, .long sd), (2, .int k), (3, .int i)]) hx hb d_P_number_31 hl (by decide) rfl (fun ls hl => ?_)
  refine lv_lload hx hb d_P_number_33 (lv_at hl 0 rfl) ?_
  refine lv_lload hx hb d_P_number_35 (lv_at hl 0 rfl) ?_
  refine lv_bipush (v := 27) hx hb d_P_number_37 (by decide) ?_
  refine lv_lushr hx hb d_P_number_39 rfl ?_
  refine lv_lxor hx hb d_P_number_40 ?_
  refine lv_ldc2 (v := (-7723592293110705685)) hx hb hown (ht _ kl_P_129) d_P_number_41 ?_
  refine lv_lmul hx hb d_P_number_44 ?_
  refine lv_topl (fun v3 e3 => ?_)
  refine lv_lstore (lv' := [(4, .long v3), (0, .long sd), (2, .int k), (3, .int i)]) hx hb d_P_number_45 hl (by decide) rfl (fun ls hl => ?_)
  refine lv_lload hx hb d_P_number_47 (lv_at hl 0 rfl) ?_
  refine lv_lload hx hb d_P_number_49 (lv_at hl 0 rfl) ?_
  refine lv_bipush (v := 31) hx hb d_P_number_51 (by decide) ?_
  refine lv_lushr hx hb d_P_number_53 rfl ?_
  refine lv_lxor hx hb d_P_number_54 ?_
  exact W.lret (v := (v3 ^^^ ((v3.toUInt64 >>> ((31 : Int32).toInt64.toUInt64 &&& Int64.toUInt64 63)).toInt64))) hx hb hr (fun t h9 _ => ⟨congrArg (fun z => Outcome.returned (some (Value.long z))) (by subst e1; subst e2; subst e3; rfl), h9⟩) (fun _ h => nomatch h) d_P_number_55
def ca (n : Nat) (f : Nat → Int64) (i : Int32) : Nat → Int32
  | 0 => 0
  | j + 1 => if fn_D_isAbove n f (nI j) i = 0 then ca n f i j else ca n f i j + 1
set_option maxHeartbeats 4000000 in
set_option maxRecDepth 100000 in
theorem c_D_countAbove (l : Launch) (G : GT) (H : Heap) (a : Nat) (b : Nat) (sd : Int64) (k : Int32) (n : Nat) (fb : Int32) (f : Nat → Int64) (p1 : Int32) (hP : va_P G.1 classes [(a, .inr (1, [.ref b, .long sd, .int k, .int (nI n), .int fb])), (b, .inl (G.2.1, 16, .inr (.inl f)))] H) (hn : n ≤ 16) : Met l y_D_countAbove (Cond.code y_D_countAbove b_D_countAbove 4 (some .int) :: TG) ({ frames := 2, cells := 0, slots := 0, locals := 47 }) (PC G H [.ref a, .int p1]) (QcRead (ca n f p1 n)) 0 0 (fun _ => False) := by
  refine Met.ofW (cc := b_D_countAbove) (maxL := 4) (ret := (some .int)) (by decide) rfl ?_
  intro p e s m args below meth c s₁ B hml hv
  obtain ⟨rfl, hH, hKN⟩ := hv
  subst hH
  have hx := B.exec
  have hb := B.bytes
  have hr := B.returns
  have hts := atoms_spec (ws := (Cond.code y_D_countAbove b_D_countAbove 4 (some .int) :: TG)) B.pre
  have ht : ∀ w ∈ TG, w.before _ s = true := fun w h => hts w (List.mem_cons_of_mem _ h)
  have hown : s.vm.findClass R_D = some m.cls := findClass_of_methodNamed B.named
  have hlocks := B.notSynchronized
  have hK := hKN.1
  have hl := lv_entry ([.ref a, .int p1]) (n := 4) (Nat.le_of_ble_eq_true rfl)
  rw [lg_entry_eq]
  generalize (lg_sl ([.ref a, .int p1]) ++ List.replicate (4 - (lg_sl ([.ref a, .int p1])).length) Slot.unset).toArray = ls at hl ⊢
  have hl : lv_has ls 4 [(0, .ref a), (1, .int p1)] := hl
  refine lv_iconst (v := 0) hx hb d_D_countAbove_0 (by decide) ?_
  refine lv_istore_n (lv' := [(2, .int 0), (0, .ref a), (1, .int p1)]) hx hb d_D_countAbove_1 rfl hl (by decide) rfl (fun ls hl => ?_)
  refine lv_iconst (v := 0) hx hb d_D_countAbove_2 (by decide) ?_
  refine lv_istore_n (lv' := [(3, .int 0), (2, .int 0), (0, .ref a), (1, .int p1)]) hx hb d_D_countAbove_3 rfl hl (by decide) rfl (fun ls hl => ?_)
  have loop : ∀ (kk j : Nat) (ls : Array Slot), j + kk = n → lv_has ls 4 [(0, .ref a), (1, .int p1), (2, .int (ca n f p1 j)), (3, .int (nI j))] → W p l e (headSpec (Cond.code y_D_countAbove b_D_countAbove 4 (some .int) :: TG) ({ frames := 2, cells := 0, slots := 0, locals := 47 })).room s m ([.ref a, .int p1] : List Value).toArray below meth c s.heap [] 0 0 (MQ below (QcRead (ca n f p1 n)) ([.ref a, .int p1] : List Value).toArray s 0 0 (fun _ => False)) (F0 m 4 ls []) := by
    intro kk
    induction kk with
    | zero =>
      intro j  ls hj  hl
      refine lv_iload_n hx hb d_D_countAbove_4 rfl (lv_at hl 3 rfl) ?_
      refine lv_aload_n hx hb d_D_countAbove_5 rfl (lv_at hl 0 rfl) ?_
      refine va_get (D := G.1) (ci := 1) (v := .int (nI n)) (C := R_D) (T := F_D) (N := 5) hx hb ht in_D hown hK hP 0 rfl rfl 3 (by decide) (ht _ kf_D_23) (fun _ h9 => h9) rfl d_D_countAbove_6 ?_
      refine lv_icmp_ge (tgt := 30) hx hb d_D_countAbove_9 (by decide) (fun c1 => ?_) (fun c1 => ?_)
      · refine lv_iload_n hx hb d_D_countAbove_30 rfl (lv_at hl 2 rfl) ?_
        exact W.iret (v := ca n f p1 j) hx hb hr (fun t h9 _ => ⟨congrArg (fun z => Outcome.returned (some (Value.int z))) (by rw [show j = n by omega]), h9⟩) (fun _ h => nomatch h) d_D_countAbove_31
      · exact absurd (show nI n ≤ nI j from nI_le (by omega) (by omega)) c1
    | succ kk ih =>
      intro j  ls hj  hl
      refine lv_iload_n hx hb d_D_countAbove_4 rfl (lv_at hl 3 rfl) ?_
      refine lv_aload_n hx hb d_D_countAbove_5 rfl (lv_at hl 0 rfl) ?_
      refine va_get (D := G.1) (ci := 1) (v := .int (nI n)) (C := R_D) (T := F_D) (N := 5) hx hb ht in_D hown hK hP 0 rfl rfl 3 (by decide) (ht _ kf_D_23) (fun _ h9 => h9) rfl d_D_countAbove_6 ?_
      refine lv_icmp_ge (tgt := 30) hx hb d_D_countAbove_9 (by decide) (fun c2 => ?_) (fun c2 => ?_)
      · exact absurd c2 (nI_ge (show j < n by omega) (by omega))
      · refine lv_aload_n hx hb d_D_countAbove_12 rfl (lv_at hl 0 rfl) ?_
        refine lv_iload_n hx hb d_D_countAbove_13 rfl (lv_at hl 3 rfl) ?_
        refine lv_iload_n hx hb d_D_countAbove_14 rfl (lv_at hl 1 rfl) ?_
        refine pr_i (ru_V (b := a) (As := [.int (nI j), .int p1]) (rest := []) ⟨hx, hb, hml, hown, ht⟩ hKN (c_D_isAbove l G _ a b sd k n fb f (nI j) p1 (hP.sub [0, 1] rfl) hn) kc_D_62 ⟨rfl, rfl⟩ ⟨Nat.le_of_ble_eq_true rfl, Nat.le_of_ble_eq_true rfl⟩ (va_recv hK hP (ci := 1) (q0 := 0) rfl rfl) rfl hl.1 rfl (Nat.le_of_ble_eq_true rfl) d_D_countAbove_15 ⟨Nat.le_of_ble_eq_true rfl, Nat.le_of_ble_eq_true rfl⟩) ?_
        refine lv_if_eq (tgt := 24) hx hb d_D_countAbove_18 (by decide) (fun c3 => ?_) (fun c3 => ?_)
        · refine lv_iinc (v := nI (j + 1)) (lv' := [(3, .int (nI (j + 1))), (0, .ref a), (1, .int p1), (2, .int (ca n f p1 j))]) hx hb d_D_countAbove_24 hl (k := 3) rfl (nI_1 j) (by decide) rfl (fun ls hl => ?_)
          refine lv_goto (tgt := 4) hx hb d_D_countAbove_27 (by decide) ?_
          exact ih (j + 1) ls (by omega) (by rw [show ca n f p1 (j + 1) = ca n f p1 j from by simp only [ca]; rw [if_pos c3]]; exact lv_sub hl [1, 2, 3, 0] rfl)
        · refine lv_iinc (v := (ca n f p1 j) + 1) (lv' := [(2, .int ((ca n f p1 j) + 1)), (0, .ref a), (1, .int p1), (3, .int (nI j))]) hx hb d_D_countAbove_21 hl (k := 2) rfl rfl (by decide) rfl (fun ls hl => ?_)
          refine lv_iinc (v := nI (j + 1)) (lv' := [(3, .int (nI (j + 1))), (2, .int ((ca n f p1 j) + 1)), (0, .ref a), (1, .int p1)]) hx hb d_D_countAbove_24 hl (k := 3) rfl (nI_1 j) (by decide) rfl (fun ls hl => ?_)
          refine lv_goto (tgt := 4) hx hb d_D_countAbove_27 (by decide) ?_
          exact ih (j + 1) ls (by omega) (by rw [show ca n f p1 (j + 1) = (ca n f p1 j) + 1 from by simp only [ca]; rw [if_neg c3]]; exact lv_sub hl [2, 3, 1, 0] rfl)
  exact loop n 0 ls (by omega) (by exact lv_sub hl [2, 3, 1, 0] rfl)
def gh (n : Nat) (f : Nat → Int64) : Nat → Int32
  | 0 => 0
  | i + 1 => if nI n / 2 ≤ ca n f (nI i) n then gh n f i else gh n f i ||| ((1 : Int32) <<< (nI i &&& 31))
set_option maxHeartbeats 4000000 in
set_option maxRecDepth 100000 in
theorem c_D_greaterHalf (l : Launch) (G : GT) (H : Heap) (a : Nat) (b : Nat) (sd : Int64) (k : Int32) (n : Nat) (fb : Int32) (f : Nat → Int64) (hP : va_P G.1 classes [(a, .inr (1, [.ref b, .long sd, .int k, .int (nI n), .int fb])), (b, .inl (G.2.1, 16, .inr (.inl f)))] H) (hn : n ≤ 16) : Met l y_D_greaterHalf (Cond.code y_D_greaterHalf b_D_greaterHalf 3 (some .int) :: TG) ({ frames := 3, cells := 0, slots := 0, locals := 70 }) (PC G H [.ref a]) (QcRead (gh n f n)) 0 0 (fun _ => False) := by
  refine Met.ofW (cc := b_D_greaterHalf) (maxL := 3) (ret := (some .int)) (by decide) rfl ?_
  intro p e s m args below meth c s₁ B hml hv
  obtain ⟨rfl, hH, hKN⟩ := hv
  subst hH
  have hx := B.exec
  have hb := B.bytes
  have hr := B.returns
  have hts := atoms_spec (ws := (Cond.code y_D_greaterHalf b_D_greaterHalf 3 (some .int) :: TG)) B.pre
  have ht : ∀ w ∈ TG, w.before _ s = true := fun w h => hts w (List.mem_cons_of_mem _ h)
  have hown : s.vm.findClass R_D = some m.cls := findClass_of_methodNamed B.named
  have hlocks := B.notSynchronized
  have hK := hKN.1
  have hl := lv_entry ([.ref a]) (n := 3) (Nat.le_of_ble_eq_true rfl)
  rw [lg_entry_eq]
  generalize (lg_sl ([.ref a]) ++ List.replicate (3 - (lg_sl ([.ref a])).length) Slot.unset).toArray = ls at hl ⊢
  have hl : lv_has ls 3 [(0, .ref a)] := hl
  refine lv_iconst (v := 0) hx hb d_D_greaterHalf_0 (by decide) ?_
  refine lv_istore_n (lv' := [(1, .int 0), (0, .ref a)]) hx hb d_D_greaterHalf_1 rfl hl (by decide) rfl (fun ls hl => ?_)
  refine lv_iconst (v := 0) hx hb d_D_greaterHalf_2 (by decide) ?_
  refine lv_istore_n (lv' := [(2, .int 0), (1, .int 0), (0, .ref a)]) hx hb d_D_greaterHalf_3 rfl hl (by decide) rfl (fun ls hl => ?_)
  have loop : ∀ (kk j : Nat) (ls : Array Slot), j + kk = n → lv_has ls 3 [(0, .ref a), (1, .int (gh n f j)), (2, .int (nI j))] → W p l e (headSpec (Cond.code y_D_greaterHalf b_D_greaterHalf 3 (some .int) :: TG) ({ frames := 3, cells := 0, slots := 0, locals := 70 })).room s m ([.ref a] : List Value).toArray below meth c s.heap [] 0 0 (MQ below (QcRead (gh n f n)) ([.ref a] : List Value).toArray s 0 0 (fun _ => False)) (F0 m 4 ls []) := by
    intro kk
    induction kk with
    | zero =>
      intro j  ls hj  hl
      refine lv_iload_n hx hb d_D_greaterHalf_4 rfl (lv_at hl 2 rfl) ?_
      refine lv_aload_n hx hb d_D_greaterHalf_5 rfl (lv_at hl 0 rfl) ?_
      refine va_get (D := G.1) (ci := 1) (v := .int (nI n)) (C := R_D) (T := F_D) (N := 5) hx hb ht in_D hown hK hP 0 rfl rfl 3 (by decide) (ht _ kf_D_23) (fun _ h9 => h9) rfl d_D_greaterHalf_6 ?_
      refine lv_icmp_ge (tgt := 38) hx hb d_D_greaterHalf_9 (by decide) (fun c1 => ?_) (fun c1 => ?_)
      · refine lv_iload_n hx hb d_D_greaterHalf_38 rfl (lv_at hl 1 rfl) ?_
        exact W.iret (v := gh n f j) hx hb hr (fun t h9 _ => ⟨congrArg (fun z => Outcome.returned (some (Value.int z))) (by rw [show j = n by omega]), h9⟩) (fun _ h => nomatch h) d_D_greaterHalf_39
      · exact absurd (show nI n ≤ nI j from nI_le (by omega) (by omega)) c1
    | succ kk ih =>
      intro j  ls hj  hl
      refine lv_iload_n hx hb d_D_greaterHalf_4 rfl (lv_at hl 2 rfl) ?_
      refine lv_aload_n hx hb d_D_greaterHalf_5 rfl (lv_at hl 0 rfl) ?_
      refine va_get (D := G.1) (ci := 1) (v := .int (nI n)) (C := R_D) (T := F_D) (N := 5) hx hb ht in_D hown hK hP 0 rfl rfl 3 (by decide) (ht _ kf_D_23) (fun _ h9 => h9) rfl d_D_greaterHalf_6 ?_
      refine lv_icmp_ge (tgt := 38) hx hb d_D_greaterHalf_9 (by decide) (fun c2 => ?_) (fun c2 => ?_)
      · exact absurd c2 (nI_ge (show j < n by omega) (by omega))
      · refine lv_aload_n hx hb d_D_greaterHalf_12 rfl (lv_at hl 0 rfl) ?_
        refine lv_iload_n hx hb d_D_greaterHalf_13 rfl (lv_at hl 2 rfl) ?_
        refine pr_i (ru_V (b := a) (As := [.int (nI j)]) (rest := []) ⟨hx, hb, hml, hown, ht⟩ hKN (c_D_countAbove l G _ a b sd k n fb f (nI j) (hP.sub [0, 1] rfl) hn) kc_D_58 ⟨rfl, rfl⟩ ⟨Nat.le_of_ble_eq_true rfl, Nat.le_of_ble_eq_true rfl⟩ (va_recv hK hP (ci := 1) (q0 := 0) rfl rfl) rfl hl.1 rfl (Nat.le_of_ble_eq_true rfl) d_D_greaterHalf_14 ⟨Nat.le_of_ble_eq_true rfl, Nat.le_of_ble_eq_true rfl⟩) ?_
        refine lv_aload_n hx hb d_D_greaterHalf_17 rfl (lv_at hl 0 rfl) ?_
        refine va_get (D := G.1) (ci := 1) (v := .int (nI n)) (C := R_D) (T := F_D) (N := 5) hx hb ht in_D hown hK hP 0 rfl rfl 3 (by decide) (ht _ kf_D_23) (fun _ h9 => h9) rfl d_D_greaterHalf_18 ?_
        refine lv_iconst (v := 2) hx hb d_D_greaterHalf_21 (by decide) ?_
        refine lv_idiv hx hb d_D_greaterHalf_22 (by decide) ?_
        refine lv_icmp_ge (tgt := 32) hx hb d_D_greaterHalf_23 (by decide) (fun c3 => ?_) (fun c3 => ?_)
        · refine lv_iinc (v := nI (j + 1)) (lv' := [(2, .int (nI (j + 1))), (0, .ref a), (1, .int (gh n f j))]) hx hb d_D_greaterHalf_32 hl (k := 2) rfl (nI_1 j) (by decide) rfl (fun ls hl => ?_)
          refine lv_goto (tgt := 4) hx hb d_D_greaterHalf_35 (by decide) ?_
          exact ih (j + 1) ls (by omega) (by rw [show gh n f (j + 1) = gh n f j from by simp only [gh]; rw [if_pos c3]]; exact lv_sub hl [1, 2, 0] rfl)
        · refine lv_iload_n hx hb d_D_greaterHalf_26 rfl (lv_at hl 1 rfl) ?_
          refine lv_iconst (v := 1) hx hb d_D_greaterHalf_27 (by decide) ?_
          refine lv_iload_n hx hb d_D_greaterHalf_28 rfl (lv_at hl 2 rfl) ?_
          refine lv_ishl hx hb d_D_greaterHalf_29 ?_
          refine lv_ior hx hb d_D_greaterHalf_30 ?_
          refine lv_istore_n (lv' := [(1, .int ((gh n f j) ||| ((1 : Int32) <<< ((nI j) &&& 31)))), (0, .ref a), (2, .int (nI j))]) hx hb d_D_greaterHalf_31 rfl hl (by decide) rfl (fun ls hl => ?_)
          refine lv_iinc (v := nI (j + 1)) (lv' := [(2, .int (nI (j + 1))), (1, .int ((gh n f j) ||| ((1 : Int32) <<< ((nI j) &&& 31)))), (0, .ref a)]) hx hb d_D_greaterHalf_32 hl (k := 2) rfl (nI_1 j) (by decide) rfl (fun ls hl => ?_)
          refine lv_goto (tgt := 4) hx hb d_D_greaterHalf_35 (by decide) ?_
          exact ih (j + 1) ls (by omega) (by rw [show gh n f (j + 1) = ((gh n f j) ||| ((1 : Int32) <<< ((nI j) &&& 31))) from by simp only [gh]; rw [if_neg c3]]; exact lv_sub hl [2, 1, 0] rfl)
  exact loop n 0 ls (by omega) (by exact lv_sub hl [2, 1, 0] rfl)
