def fn_P_isDrawable (p1 : Int32) (p2 : Int32) : Int32 := (if p1 < 0 then 0 else (if 4 < p1 then 0 else (if p2 < 0 then 0 else (if 16 ≤ p2 then 0 else 1))))
set_option maxHeartbeats 4000000 in
set_option maxRecDepth 100000 in
theorem c_P_isDrawable (l : Launch) (G : GT) (H : Heap) (p1 : Int32) (p2 : Int32) : Met l y_P_isDrawable (Cond.code y_P_isDrawable b_P_isDrawable 2 (some .boolean) :: TG) ({ frames := 0, cells := 0, slots := 0, locals := 0 }) (PC G H [.int p1, .int p2]) (QcRead (fn_P_isDrawable p1 p2)) 0 0 (fun _ => False) := by
  refine Met.ofW (cc := b_P_isDrawable) (maxL := 2) (ret := (some .boolean)) (by decide) rfl ?_
  intro p e s m args below meth c s₁ B hml hv
  obtain ⟨rfl, hH, hKN⟩ := hv
  subst hH
  have hx := B.exec
  have hb := B.bytes
  have hr := B.returns
  have hts := atoms_spec (ws := (Cond.code y_P_isDrawable b_P_isDrawable 2 (some .boolean) :: TG)) B.pre
  have ht : ∀ w ∈ TG, w.before _ s = true := fun w h => hts w (List.mem_cons_of_mem _ h)
  have hown : s.vm.findClass R_P = some m.cls := findClass_of_methodNamed B.named
  have hlocks := B.notSynchronized
  have hK := hKN.1
  have hl := lv_entry ([.int p1, .int p2]) (n := 2) (Nat.le_of_ble_eq_true rfl)
  rw [lg_entry_eq]
  generalize (lg_sl ([.int p1, .int p2]) ++ List.replicate (2 - (lg_sl ([.int p1, .int p2])).length) Slot.unset).toArray = ls at hl ⊢
  have hl : lv_has ls 2 [(0, .int p1), (1, .int p2)] := hl
  refine lv_iload_n hx hb d_P_isDrawable_0 rfl (lv_at hl 0 rfl) ?_
  refine lv_if_lt (tgt := 23) hx hb d_P_isDrawable_1 (by decide) (fun c1 => ?_) (fun c1 => ?_)
  · refine lv_iconst (v := 0) hx hb d_P_isDrawable_23 (by decide) ?_
    exact W.zret (v := 0) hx hb hr rfl (fun t h9 _ => ⟨congrArg (fun z => Outcome.returned (some (Value.int z))) (by unfold fn_P_isDrawable; rw [if_pos c1]), h9⟩) (fun _ h => nomatch h) d_P_isDrawable_24
  · refine lv_iload_n hx hb d_P_isDrawable_4 rfl (lv_at hl 0 rfl) ?_
    refine lv_iconst (v := 4) hx hb d_P_isDrawable_5 (by decide) ?_
    refine lv_icmp_gt (tgt := 23) hx hb d_P_isDrawable_6 (by decide) (fun c2 => ?_) (fun c2 => ?_)
    · refine lv_iconst (v := 0) hx hb d_P_isDrawable_23 (by decide) ?_
      exact W.zret (v := 0) hx hb hr rfl (fun t h9 _ => ⟨congrArg (fun z => Outcome.returned (some (Value.int z))) (by unfold fn_P_isDrawable; rw [if_neg c1, if_pos c2]), h9⟩) (fun _ h => nomatch h) d_P_isDrawable_24
    · refine lv_iload_n hx hb d_P_isDrawable_9 rfl (lv_at hl 1 rfl) ?_
      refine lv_if_lt (tgt := 23) hx hb d_P_isDrawable_10 (by decide) (fun c3 => ?_) (fun c3 => ?_)
      · refine lv_iconst (v := 0) hx hb d_P_isDrawable_23 (by decide) ?_
        exact W.zret (v := 0) hx hb hr rfl (fun t h9 _ => ⟨congrArg (fun z => Outcome.returned (some (Value.int z))) (by unfold fn_P_isDrawable; rw [if_neg c1, if_neg c2, if_pos c3]), h9⟩) (fun _ h => nomatch h) d_P_isDrawable_24
      · refine lv_iload_n hx hb d_P_isDrawable_13 rfl (lv_at hl 1 rfl) ?_
        refine lv_bipush (v := 16) hx hb d_P_isDrawable_14 (by decide) ?_
        refine lv_icmp_ge (tgt := 23) hx hb d_P_isDrawable_16 (by decide) (fun c4 => ?_) (fun c4 => ?_)
        · refine lv_iconst (v := 0) hx hb d_P_isDrawable_23 (by decide) ?_
          exact W.zret (v := 0) hx hb hr rfl (fun t h9 _ => ⟨congrArg (fun z => Outcome.returned (some (Value.int z))) (by unfold fn_P_isDrawable; rw [if_neg c1, if_neg c2, if_neg c3, if_pos c4]), h9⟩) (fun _ h => nomatch h) d_P_isDrawable_24
        · refine lv_iconst (v := 1) hx hb d_P_isDrawable_19 (by decide) ?_
          refine lv_goto (tgt := 24) hx hb d_P_isDrawable_20 (by decide) ?_
          exact W.zret (v := 1) hx hb hr rfl (fun t h9 _ => ⟨congrArg (fun z => Outcome.returned (some (Value.int z))) (by unfold fn_P_isDrawable; rw [if_neg c1, if_neg c2, if_neg c3, if_neg c4]), h9⟩) (fun _ h => nomatch h) d_P_isDrawable_24
set_option maxHeartbeats 4000000 in
set_option maxRecDepth 100000 in
theorem c_P_seed (l : Launch) (G : GT) (H : Heap) (a : Nat) (d1 : Nat) (d2 : Nat) (v1 : Nat) (v2 : Nat) (v3 : Nat) (o1 : Nat) (t1 : Nat) (sd : Int64) (k : Int32) (n : Nat) (fb : Int32) (f : Nat → Int64) (g : Nat → Int32) (h : Nat → Int32) (q : Nat) (ns : Int64) (lb : Int32) (s1 : Int64) (hP : va_P G.1 classes [(a, .inr (0, [.ref d1, .ref v1, .ref o1, .ref t1, .long ns, .int lb])), (d1, .inr (1, [.ref d2, .long sd, .int k, .int (nI n), .int fb])), (d2, .inl (G.2.1, 16, .inr (.inl f))), (v1, .inr (2, [.ref v2, .ref v3, .int (nI q)])), (v2, .inl (G.2.2.1, 100, .inl g)), (v3, .inl (G.2.2.2, 100, .inl h))] H) (hD0 : va_D (fun _ => True) [(a, .inr (0, [.ref d1, .ref v1, .ref o1, .ref t1, .long ns, .int lb])), (d1, .inr (1, [.ref d2, .long sd, .int k, .int (nI n), .int fb])), (d2, .inl (G.2.1, 16, .inr (.inl f))), (v1, .inr (2, [.ref v2, .ref v3, .int (nI q)])), (v2, .inl (G.2.2.1, 100, .inl g)), (v3, .inl (G.2.2.2, 100, .inl h))]) (hn : n ≤ 16) (hq : q ≤ 100) : Met l y_P_seed (Cond.code y_P_seed b_P_seed 5 (some .long) :: TG) ({ frames := 0, cells := 0, slots := 0, locals := 0 }) (PC G H [.ref a, .long s1]) (QMl G (ns) [(a, .inr (0, [.ref d1, .ref v1, .ref o1, .ref t1, .long s1, .int lb])), (d1, .inr (1, [.ref d2, .long sd, .int k, .int (nI n), .int fb])), (d2, .inl (G.2.1, 16, .inr (.inl f))), (v1, .inr (2, [.ref v2, .ref v3, .int (nI q)])), (v2, .inl (G.2.2.1, 100, .inl g)), (v3, .inl (G.2.2.2, 100, .inl h))] (va_A [(a, .inr (0, [.ref d1, .ref v1, .ref o1, .ref t1, .long ns, .int lb])), (d1, .inr (1, [.ref d2, .long sd, .int k, .int (nI n), .int fb])), (d2, .inl (G.2.1, 16, .inr (.inl f))), (v1, .inr (2, [.ref v2, .ref v3, .int (nI q)])), (v2, .inl (G.2.2.1, 100, .inl g)), (v3, .inl (G.2.2.2, 100, .inl h))] H.size)) 0 0 (va_A [(a, .inr (0, [.ref d1, .ref v1, .ref o1, .ref t1, .long ns, .int lb])), (d1, .inr (1, [.ref d2, .long sd, .int k, .int (nI n), .int fb])), (d2, .inl (G.2.1, 16, .inr (.inl f))), (v1, .inr (2, [.ref v2, .ref v3, .int (nI q)])), (v2, .inl (G.2.2.1, 100, .inl g)), (v3, .inl (G.2.2.2, 100, .inl h))] H.size) := by
  refine Met.ofW (cc := b_P_seed) (maxL := 5) (ret := (some .long)) (by decide) rfl ?_
  intro p e s m args below meth c s₁ B hml hv
  obtain ⟨rfl, hH, hKN⟩ := hv
  subst hH
  have hx := B.exec
  have hb := B.bytes
  have hr := B.returns
  have hts := atoms_spec (ws := (Cond.code y_P_seed b_P_seed 5 (some .long) :: TG)) B.pre
  have ht : ∀ w ∈ TG, w.before _ s = true := fun w h => hts w (List.mem_cons_of_mem _ h)
  have hown : s.vm.findClass R_P = some m.cls := findClass_of_methodNamed B.named
  have hlocks := B.notSynchronized
  have hK := hKN.1
  have hl := lv_entry ([.ref a, .long s1]) (n := 5) (Nat.le_of_ble_eq_true rfl)
  rw [lg_entry_eq]
  generalize (lg_sl ([.ref a, .long s1]) ++ List.replicate (5 - (lg_sl ([.ref a, .long s1])).length) Slot.unset).toArray = ls at hl ⊢
  have hl : lv_has ls 5 [(0, .ref a), (1, .long s1)] := hl
  have hD := hD0.self (sz := s.heap.size)
  generalize hAe : va_A [(a, .inr (0, [.ref d1, .ref v1, .ref o1, .ref t1, .long ns, .int lb])), (d1, .inr (1, [.ref d2, .long sd, .int k, .int (nI n), .int fb])), (d2, .inl (G.2.1, 16, .inr (.inl f))), (v1, .inr (2, [.ref v2, .ref v3, .int (nI q)])), (v2, .inl (G.2.2.1, 100, .inl g)), (v3, .inl (G.2.2.2, 100, .inl h))] s.heap.size = A at hD ⊢
  have hA : ∀ q : Nat, s.heap.size ≤ q → A q := fun q h => by rw [← hAe]; exact Or.inr h
  have hS : va_S A s.heap s.heap [] := va_S.rf
  refine lv_aload_n hx hb d_P_seed_0 rfl (lv_at hl 0 rfl) ?_
  refine va_get (D := G.1) (ci := 0) (v := .long ns) (C := R_P) (T := F_P) (N := 6) hx hb ht in_P hown hK hP 0 rfl rfl 4 (by decide) (ht _ kf_P_7) (fun _ h9 => h9) rfl d_P_seed_1 ?_
  refine lv_lstore_n (lv' := [(3, .long ns), (0, .ref a), (1, .long s1)]) hx hb d_P_seed_4 rfl hl (by decide) rfl (fun ls hl => ?_)
  refine lv_aload_n hx hb d_P_seed_5 rfl (lv_at hl 1 rfl) ?_
  refine lv_lload_n hx hb d_P_seed_6 rfl (lv_at hl 2 rfl) ?_
  refine va_put (D := G.1) (ci := 0) (v := .long s1) (ty := .long) (C := R_P) (T := F_P) (N := 6) hx hb ht in_P t_P tk_P n_P hown hK hP hD hS 0 rfl rfl 4 (by decide) (ht _ kf_P_7) (fun _ h9 => h9) rfl (by decide +kernel) rfl rfl (Nat.le_of_ble_eq_true rfl) d_P_seed_7 (fun H locs hP hD hS => ?_)
  have hP : va_P G.1 classes [(a, .inr (0, [.ref d1, .ref v1, .ref o1, .ref t1, .long s1, .int lb])), (d1, .inr (1, [.ref d2, .long sd, .int k, .int (nI n), .int fb])), (d2, .inl (G.2.1, 16, .inr (.inl f))), (v1, .inr (2, [.ref v2, .ref v3, .int (nI q)])), (v2, .inl (G.2.2.1, 100, .inl g)), (v3, .inl (G.2.2.2, 100, .inl h))] H := hP
  have hD : va_D A [(a, .inr (0, [.ref d1, .ref v1, .ref o1, .ref t1, .long s1, .int lb])), (d1, .inr (1, [.ref d2, .long sd, .int k, .int (nI n), .int fb])), (d2, .inl (G.2.1, 16, .inr (.inl f))), (v1, .inr (2, [.ref v2, .ref v3, .int (nI q)])), (v2, .inl (G.2.2.1, 100, .inl g)), (v3, .inl (G.2.2.2, 100, .inl h))] := hD
  refine lv_lload_n hx hb d_P_seed_10 rfl (lv_at hl 0 rfl) ?_
  exact W.lret (v := ns) hx hb hr (fun t h9 _ => ⟨⟨ns, (), rfl, rfl, by show va_P _ _ _ t.heap; rw [h9]; exact hP⟩, hS.F h9⟩) hS.2.2 d_P_seed_11
def fn_P_part (n : Nat) (fb : Int32) (f : Nat → Int64) (p1 : Int32) (p2 : Int32) : Int32 := (if (fn_D_has n p1) = 0 then (-1) else (if p2 < 0 then (-12) else (if p2 ≤ 4 then (if p2 = 0 then (if (fn_D_hasFaults n fb p1) = 0 then 0 else 1) else (fn_D_fact n f p1 p2)) else (-12))))
set_option maxHeartbeats 4000000 in
set_option maxRecDepth 100000 in
theorem c_P_part (l : Launch) (G : GT) (H : Heap) (a : Nat) (d1 : Nat) (d2 : Nat) (v1 : Nat) (v2 : Nat) (v3 : Nat) (o1 : Nat) (t1 : Nat) (sd : Int64) (k : Int32) (n : Nat) (fb : Int32) (f : Nat → Int64) (g : Nat → Int32) (h : Nat → Int32) (q : Nat) (ns : Int64) (lb : Int32) (p1 : Int32) (p2 : Int32) (hP : va_P G.1 classes [(a, .inr (0, [.ref d1, .ref v1, .ref o1, .ref t1, .long ns, .int lb])), (d1, .inr (1, [.ref d2, .long sd, .int k, .int (nI n), .int fb])), (d2, .inl (G.2.1, 16, .inr (.inl f))), (v1, .inr (2, [.ref v2, .ref v3, .int (nI q)])), (v2, .inl (G.2.2.1, 100, .inl g)), (v3, .inl (G.2.2.2, 100, .inl h))] H) (hn : n ≤ 16) (hq : q ≤ 100) : Met l y_P_part (Cond.code y_P_part b_P_part 3 (some .int) :: TG) ({ frames := 2, cells := 0, slots := 0, locals := 45 }) (PC G H [.ref a, .int p1, .int p2]) (QcRead (fn_P_part n fb f p1 p2)) 0 0 (fun _ => False) := by
  refine Met.ofW (cc := b_P_part) (maxL := 3) (ret := (some .int)) (by decide) rfl ?_
  intro p e s m args below meth c s₁ B hml hv
  obtain ⟨rfl, hH, hKN⟩ := hv
  subst hH
  have hx := B.exec
  have hb := B.bytes
  have hr := B.returns
  have hts := atoms_spec (ws := (Cond.code y_P_part b_P_part 3 (some .int) :: TG)) B.pre
  have ht : ∀ w ∈ TG, w.before _ s = true := fun w h => hts w (List.mem_cons_of_mem _ h)
  have hown : s.vm.findClass R_P = some m.cls := findClass_of_methodNamed B.named
  have hlocks := B.notSynchronized
  have hK := hKN.1
  have hl := lv_entry ([.ref a, .int p1, .int p2]) (n := 3) (Nat.le_of_ble_eq_true rfl)
  rw [lg_entry_eq]
  generalize (lg_sl ([.ref a, .int p1, .int p2]) ++ List.replicate (3 - (lg_sl ([.ref a, .int p1, .int p2])).length) Slot.unset).toArray = ls at hl ⊢
  have hl : lv_has ls 3 [(0, .ref a), (1, .int p1), (2, .int p2)] := hl
  refine lv_aload_n hx hb d_P_part_0 rfl (lv_at hl 0 rfl) ?_
  refine va_get (D := G.1) (ci := 0) (v := .ref d1) (C := R_P) (T := F_P) (N := 6) hx hb ht in_P hown hK hP 0 rfl rfl 0 (by decide) (ht _ kf_P_20) (fun _ h9 => h9) rfl d_P_part_1 ?_
  refine lv_iload_n hx hb d_P_part_4 rfl (lv_at hl 1 rfl) ?_
  refine pr_i (ru_V (b := d1) (As := [.int p1]) (rest := []) ⟨hx, hb, hml, hown, ht⟩ hKN (c_D_has l G _ d1 d2 sd k n fb f p1 (hP.sub [1, 2] rfl) hn) kc_P_55 ⟨rfl, rfl⟩ ⟨Nat.le_of_ble_eq_true rfl, Nat.le_of_ble_eq_true rfl⟩ (va_recv hK hP (ci := 1) (q0 := 1) rfl rfl) rfl hl.1 rfl (Nat.le_of_ble_eq_true rfl) d_P_part_5 ⟨Nat.le_of_ble_eq_true rfl, Nat.le_of_ble_eq_true rfl⟩) ?_
  refine lv_if_ne (tgt := 13) hx hb d_P_part_8 (by decide) (fun c1 => ?_) (fun c1 => ?_)
  · refine lv_iload_n hx hb d_P_part_13 rfl (lv_at hl 2 rfl) ?_
    refine lv_if_lt (tgt := 22) hx hb d_P_part_14 (by decide) (fun c2 => ?_) (fun c2 => ?_)
    · refine lv_bipush (v := (-12)) hx hb d_P_part_22 (by decide) ?_
      exact W.iret (v := (-12)) hx hb hr (fun t h9 _ => ⟨congrArg (fun z => Outcome.returned (some (Value.int z))) (by unfold fn_P_part; rw [if_neg c1, if_pos c2]), h9⟩) (fun _ h => nomatch h) d_P_part_24
    · refine lv_iload_n hx hb d_P_part_17 rfl (lv_at hl 2 rfl) ?_
      refine lv_iconst (v := 4) hx hb d_P_part_18 (by decide) ?_
      refine lv_icmp_le (tgt := 25) hx hb d_P_part_19 (by decide) (fun c3 => ?_) (fun c3 => ?_)
      · refine lv_iload_n hx hb d_P_part_25 rfl (lv_at hl 2 rfl) ?_
        refine lv_if_ne (tgt := 46) hx hb d_P_part_26 (by decide) (fun c4 => ?_) (fun c4 => ?_)
        · refine lv_aload_n hx hb d_P_part_46 rfl (lv_at hl 0 rfl) ?_
          refine va_get (D := G.1) (ci := 0) (v := .ref d1) (C := R_P) (T := F_P) (N := 6) hx hb ht in_P hown hK hP 0 rfl rfl 0 (by decide) (ht _ kf_P_20) (fun _ h9 => h9) rfl d_P_part_47 ?_
          refine lv_iload_n hx hb d_P_part_50 rfl (lv_at hl 1 rfl) ?_
          refine lv_iload_n hx hb d_P_part_51 rfl (lv_at hl 2 rfl) ?_
          refine pr_i (ru_V (b := d1) (As := [.int p1, .int p2]) (rest := []) ⟨hx, hb, hml, hown, ht⟩ hKN (c_D_fact l G _ d1 d2 sd k n fb f p1 p2 (hP.sub [1, 2] rfl) hn) kc_P_62 ⟨rfl, rfl⟩ ⟨Nat.le_of_ble_eq_true rfl, Nat.le_of_ble_eq_true rfl⟩ (va_recv hK hP (ci := 1) (q0 := 1) rfl rfl) rfl hl.1 rfl (Nat.le_of_ble_eq_true rfl) d_P_part_52 ⟨Nat.le_of_ble_eq_true rfl, Nat.le_of_ble_eq_true rfl⟩) ?_
          exact W.iret (v := (fn_D_fact n f p1 p2)) hx hb hr (fun t h9 _ => ⟨congrArg (fun z => Outcome.returned (some (Value.int z))) (by unfold fn_P_part; rw [if_neg c1, if_neg c2, if_pos c3, if_neg c4]), h9⟩) (fun _ h => nomatch h) d_P_part_55
        · refine lv_aload_n hx hb d_P_part_29 rfl (lv_at hl 0 rfl) ?_
          refine va_get (D := G.1) (ci := 0) (v := .ref d1) (C := R_P) (T := F_P) (N := 6) hx hb ht in_P hown hK hP 0 rfl rfl 0 (by decide) (ht _ kf_P_20) (fun _ h9 => h9) rfl d_P_part_30 ?_
          refine lv_iload_n hx hb d_P_part_33 rfl (lv_at hl 1 rfl) ?_
          refine pr_i (ru_V (b := d1) (As := [.int p1]) (rest := []) ⟨hx, hb, hml, hown, ht⟩ hKN (c_D_hasFaults l G _ d1 d2 sd k n fb f p1 (hP.sub [1, 2] rfl) hn) kc_P_59 ⟨rfl, rfl⟩ ⟨Nat.le_of_ble_eq_true rfl, Nat.le_of_ble_eq_true rfl⟩ (va_recv hK hP (ci := 1) (q0 := 1) rfl rfl) rfl hl.1 rfl (Nat.le_of_ble_eq_true rfl) d_P_part_34 ⟨Nat.le_of_ble_eq_true rfl, Nat.le_of_ble_eq_true rfl⟩) ?_
          refine lv_if_eq (tgt := 44) hx hb d_P_part_37 (by decide) (fun c5 => ?_) (fun c5 => ?_)
          · refine lv_iconst (v := 0) hx hb d_P_part_44 (by decide) ?_
            exact W.iret (v := 0) hx hb hr (fun t h9 _ => ⟨congrArg (fun z => Outcome.returned (some (Value.int z))) (by unfold fn_P_part; rw [if_neg c1, if_neg c2, if_pos c3, if_pos c4, if_pos c5]), h9⟩) (fun _ h => nomatch h) d_P_part_45
          · refine lv_iconst (v := 1) hx hb d_P_part_40 (by decide) ?_
            refine lv_goto (tgt := 45) hx hb d_P_part_41 (by decide) ?_
            exact W.iret (v := 1) hx hb hr (fun t h9 _ => ⟨congrArg (fun z => Outcome.returned (some (Value.int z))) (by unfold fn_P_part; rw [if_neg c1, if_neg c2, if_pos c3, if_pos c4, if_neg c5]), h9⟩) (fun _ h => nomatch h) d_P_part_45
      · refine lv_bipush (v := (-12)) hx hb d_P_part_22 (by decide) ?_
        exact W.iret (v := (-12)) hx hb hr (fun t h9 _ => ⟨congrArg (fun z => Outcome.returned (some (Value.int z))) (by unfold fn_P_part; rw [if_neg c1, if_neg c2, if_neg c3]), h9⟩) (fun _ h => nomatch h) d_P_part_24
  · refine lv_iconst (v := (-1)) hx hb d_P_part_11 (by decide) ?_
    exact W.iret (v := (-1)) hx hb hr (fun t h9 _ => ⟨congrArg (fun z => Outcome.returned (some (Value.int z))) (by unfold fn_P_part; rw [if_pos c1]), h9⟩) (fun _ h => nomatch h) d_P_part_12
def fn_P_faultless (k : Int32) (n : Nat) (fb : Int32) (p1 : Int32) : Int32 := (if k = 3 then (if (fn_D_has n p1) = 0 then 0 else (if (fn_D_hasFaults n fb p1) = 0 then 1 else 0)) else 0)
set_option maxHeartbeats 4000000 in
set_option maxRecDepth 100000 in
theorem c_P_faultless (l : Launch) (G : GT) (H : Heap) (a : Nat) (d1 : Nat) (d2 : Nat) (v1 : Nat) (v2 : Nat) (v3 : Nat) (o1 : Nat) (t1 : Nat) (sd : Int64) (k : Int32) (n : Nat) (fb : Int32) (f : Nat → Int64) (g : Nat → Int32) (h : Nat → Int32) (q : Nat) (ns : Int64) (lb : Int32) (p1 : Int32) (hP : va_P G.1 classes [(a, .inr (0, [.ref d1, .ref v1, .ref o1, .ref t1, .long ns, .int lb])), (d1, .inr (1, [.ref d2, .long sd, .int k, .int (nI n), .int fb])), (d2, .inl (G.2.1, 16, .inr (.inl f))), (v1, .inr (2, [.ref v2, .ref v3, .int (nI q)])), (v2, .inl (G.2.2.1, 100, .inl g)), (v3, .inl (G.2.2.2, 100, .inl h))] H) (hn : n ≤ 16) (hq : q ≤ 100) : Met l y_P_faultless (Cond.code y_P_faultless b_P_faultless 2 (some .boolean) :: TG) ({ frames := 2, cells := 0, slots := 0, locals := 42 }) (PC G H [.ref a, .int p1]) (QcRead (fn_P_faultless k n fb p1)) 0 0 (fun _ => False) := by
  refine Met.ofW (cc := b_P_faultless) (maxL := 2) (ret := (some .boolean)) (by decide) rfl ?_
  intro p e s m args below meth c s₁ B hml hv
  obtain ⟨rfl, hH, hKN⟩ := hv
  subst hH
  have hx := B.exec
  have hb := B.bytes
  have hr := B.returns
  have hts := atoms_spec (ws := (Cond.code y_P_faultless b_P_faultless 2 (some .boolean) :: TG)) B.pre
  have ht : ∀ w ∈ TG, w.before _ s = true := fun w h => hts w (List.mem_cons_of_mem _ h)
  have hown : s.vm.findClass R_P = some m.cls := findClass_of_methodNamed B.named
  have hlocks := B.notSynchronized
  have hK := hKN.1
  have hl := lv_entry ([.ref a, .int p1]) (n := 2) (Nat.le_of_ble_eq_true rfl)
  rw [lg_entry_eq]
  generalize (lg_sl ([.ref a, .int p1]) ++ List.replicate (2 - (lg_sl ([.ref a, .int p1])).length) Slot.unset).toArray = ls at hl ⊢
  have hl : lv_has ls 2 [(0, .ref a), (1, .int p1)] := hl
  refine lv_aload_n hx hb d_P_faultless_0 rfl (lv_at hl 0 rfl) ?_
  refine va_get (D := G.1) (ci := 0) (v := .ref d1) (C := R_P) (T := F_P) (N := 6) hx hb ht in_P hown hK hP 0 rfl rfl 0 (by decide) (ht _ kf_P_20) (fun _ h9 => h9) rfl d_P_faultless_1 ?_
  refine va_getN (D := G.1) (ci := 1) (v := .int k) (C := R_D) (T := F_D) (N := 5) hx hb ht in_D hown hK hP 1 rfl rfl 2 (by decide) (va_Nw.use rfl (hKN.2 _ kn_P_66 rfl)) (fun _ h9 => h9) rfl d_P_faultless_4 ?_
  refine lv_iconst (v := 3) hx hb d_P_faultless_7 (by decide) ?_
  refine lv_icmp_ne (tgt := 37) hx hb d_P_faultless_8 (by decide) (fun c1 => ?_) (fun c1 => ?_)
  · refine lv_iconst (v := 0) hx hb d_P_faultless_37 (by decide) ?_
    exact W.zret (v := 0) hx hb hr rfl (fun t h9 _ => ⟨congrArg (fun z => Outcome.returned (some (Value.int z))) (by unfold fn_P_faultless; rw [if_neg c1]), h9⟩) (fun _ h => nomatch h) d_P_faultless_38
  · refine lv_aload_n hx hb d_P_faultless_11 rfl (lv_at hl 0 rfl) ?_
    refine va_get (D := G.1) (ci := 0) (v := .ref d1) (C := R_P) (T := F_P) (N := 6) hx hb ht in_P hown hK hP 0 rfl rfl 0 (by decide) (ht _ kf_P_20) (fun _ h9 => h9) rfl d_P_faultless_12 ?_
    refine lv_iload_n hx hb d_P_faultless_15 rfl (lv_at hl 1 rfl) ?_
    refine pr_i (ru_V (b := d1) (As := [.int p1]) (rest := []) ⟨hx, hb, hml, hown, ht⟩ hKN (c_D_has l G _ d1 d2 sd k n fb f p1 (hP.sub [1, 2] rfl) hn) kc_P_55 ⟨rfl, rfl⟩ ⟨Nat.le_of_ble_eq_true rfl, Nat.le_of_ble_eq_true rfl⟩ (va_recv hK hP (ci := 1) (q0 := 1) rfl rfl) rfl hl.1 rfl (Nat.le_of_ble_eq_true rfl) d_P_faultless_16 ⟨Nat.le_of_ble_eq_true rfl, Nat.le_of_ble_eq_true rfl⟩) ?_
    refine lv_if_eq (tgt := 37) hx hb d_P_faultless_19 (by decide) (fun c2 => ?_) (fun c2 => ?_)
    · refine lv_iconst (v := 0) hx hb d_P_faultless_37 (by decide) ?_
      exact W.zret (v := 0) hx hb hr rfl (fun t h9 _ => ⟨congrArg (fun z => Outcome.returned (some (Value.int z))) (by unfold fn_P_faultless; rw [if_pos c1, if_pos c2]), h9⟩) (fun _ h => nomatch h) d_P_faultless_38
    · refine lv_aload_n hx hb d_P_faultless_22 rfl (lv_at hl 0 rfl) ?_
      refine va_get (D := G.1) (ci := 0) (v := .ref d1) (C := R_P) (T := F_P) (N := 6) hx hb ht in_P hown hK hP 0 rfl rfl 0 (by decide) (ht _ kf_P_20) (fun _ h9 => h9) rfl d_P_faultless_23 ?_
      refine lv_iload_n hx hb d_P_faultless_26 rfl (lv_at hl 1 rfl) ?_
      refine pr_i (ru_V (b := d1) (As := [.int p1]) (rest := []) ⟨hx, hb, hml, hown, ht⟩ hKN (c_D_hasFaults l G _ d1 d2 sd k n fb f p1 (hP.sub [1, 2] rfl) hn) kc_P_59 ⟨rfl, rfl⟩ ⟨Nat.le_of_ble_eq_true rfl, Nat.le_of_ble_eq_true rfl⟩ (va_recv hK hP (ci := 1) (q0 := 1) rfl rfl) rfl hl.1 rfl (Nat.le_of_ble_eq_true rfl) d_P_faultless_27 ⟨Nat.le_of_ble_eq_true rfl, Nat.le_of_ble_eq_true rfl⟩) ?_
      refine lv_if_ne (tgt := 37) hx hb d_P_faultless_30 (by decide) (fun c3 => ?_) (fun c3 => ?_)
      · refine lv_iconst (v := 0) hx hb d_P_faultless_37 (by decide) ?_
        exact W.zret (v := 0) hx hb hr rfl (fun t h9 _ => ⟨congrArg (fun z => Outcome.returned (some (Value.int z))) (by unfold fn_P_faultless; rw [if_pos c1, if_neg c2, if_neg c3]), h9⟩) (fun _ h => nomatch h) d_P_faultless_38
      · refine lv_iconst (v := 1) hx hb d_P_faultless_33 (by decide) ?_
        refine lv_goto (tgt := 38) hx hb d_P_faultless_34 (by decide) ?_
        exact W.zret (v := 1) hx hb hr rfl (fun t h9 _ => ⟨congrArg (fun z => Outcome.returned (some (Value.int z))) (by unfold fn_P_faultless; rw [if_pos c1, if_neg c2, if_pos c3]), h9⟩) (fun _ h => nomatch h) d_P_faultless_38
def fn_P_canLeaveOut (g : Nat → Int32) (h : Nat → Int32) (q : Nat) (lb : Int32) (p1 : Int32) : Int32 := (if (lb &&& ((1 : Int32) <<< (p1 &&& 31))) = 0 then 0 else (if (fn_V_stayFor g h q (lb &&& (((1 : Int32) <<< (p1 &&& 31)) ^^^ (-1)))) = 0 then 0 else 1))
set_option maxHeartbeats 4000000 in
set_option maxRecDepth 100000 in
theorem c_P_canLeaveOut (l : Launch) (G : GT) (H : Heap) (a : Nat) (d1 : Nat) (d2 : Nat) (v1 : Nat) (v2 : Nat) (v3 : Nat) (o1 : Nat) (t1 : Nat) (sd : Int64) (k : Int32) (n : Nat) (fb : Int32) (f : Nat → Int64) (g : Nat → Int32) (h : Nat → Int32) (q : Nat) (ns : Int64) (lb : Int32) (p1 : Int32) (hP : va_P G.1 classes [(a, .inr (0, [.ref d1, .ref v1, .ref o1, .ref t1, .long ns, .int lb])), (d1, .inr (1, [.ref d2, .long sd, .int k, .int (nI n), .int fb])), (d2, .inl (G.2.1, 16, .inr (.inl f))), (v1, .inr (2, [.ref v2, .ref v3, .int (nI q)])), (v2, .inl (G.2.2.1, 100, .inl g)), (v3, .inl (G.2.2.2, 100, .inl h))] H) (hn : n ≤ 16) (hq : q ≤ 100) : Met l y_P_canLeaveOut (Cond.code y_P_canLeaveOut b_P_canLeaveOut 3 (some .boolean) :: TG) ({ frames := 2, cells := 0, slots := 0, locals := 44 }) (PC G H [.ref a, .int p1]) (QcRead (fn_P_canLeaveOut g h q lb p1)) 0 0 (fun _ => False) := by
  refine Met.ofW (cc := b_P_canLeaveOut) (maxL := 3) (ret := (some .boolean)) (by decide) rfl ?_
  intro p e s m args below meth c s₁ B hml hv
  obtain ⟨rfl, hH, hKN⟩ := hv
  subst hH
  have hx := B.exec
  have hb := B.bytes
  have hr := B.returns
  have hts := atoms_spec (ws := (Cond.code y_P_canLeaveOut b_P_canLeaveOut 3 (some .boolean) :: TG)) B.pre
  have ht : ∀ w ∈ TG, w.before _ s = true := fun w h => hts w (List.mem_cons_of_mem _ h)
  have hown : s.vm.findClass R_P = some m.cls := findClass_of_methodNamed B.named
  have hlocks := B.notSynchronized
  have hK := hKN.1
  have hl := lv_entry ([.ref a, .int p1]) (n := 3) (Nat.le_of_ble_eq_true rfl)
  rw [lg_entry_eq]
  generalize (lg_sl ([.ref a, .int p1]) ++ List.replicate (3 - (lg_sl ([.ref a, .int p1])).length) Slot.unset).toArray = ls at hl ⊢
  have hl : lv_has ls 3 [(0, .ref a), (1, .int p1)] := hl
  refine lv_iconst (v := 1) hx hb d_P_canLeaveOut_0 (by decide) ?_
  refine lv_iload_n hx hb d_P_canLeaveOut_1 rfl (lv_at hl 1 rfl) ?_
  refine lv_ishl hx hb d_P_canLeaveOut_2 ?_
  refine lv_istore_n (lv' := [(2, .int ((1 : Int32) <<< (p1 &&& 31))), (0, .ref a), (1, .int p1)]) hx hb d_P_canLeaveOut_3 rfl hl (by decide) rfl (fun ls hl => ?_)
  refine lv_aload_n hx hb d_P_canLeaveOut_4 rfl (lv_at hl 1 rfl) ?_
  refine va_get (D := G.1) (ci := 0) (v := .int lb) (C := R_P) (T := F_P) (N := 6) hx hb ht in_P hown hK hP 0 rfl rfl 5 (by decide) (ht _ kf_P_13) (fun _ h9 => h9) rfl d_P_canLeaveOut_5 ?_
  refine lv_iload_n hx hb d_P_canLeaveOut_8 rfl (lv_at hl 0 rfl) ?_
  refine lv_iand hx hb d_P_canLeaveOut_9 ?_
  refine lv_if_eq (tgt := 35) hx hb d_P_canLeaveOut_10 (by decide) (fun c1 => ?_) (fun c1 => ?_)
  · refine lv_iconst (v := 0) hx hb d_P_canLeaveOut_35 (by decide) ?_
    exact W.zret (v := 0) hx hb hr rfl (fun t h9 _ => ⟨congrArg (fun z => Outcome.returned (some (Value.int z))) (by unfold fn_P_canLeaveOut; rw [if_pos c1]), h9⟩) (fun _ h => nomatch h) d_P_canLeaveOut_36
  · refine lv_aload_n hx hb d_P_canLeaveOut_13 rfl (lv_at hl 1 rfl) ?_
    refine va_get (D := G.1) (ci := 0) (v := .ref v1) (C := R_P) (T := F_P) (N := 6) hx hb ht in_P hown hK hP 0 rfl rfl 1 (by decide) (ht _ kf_P_33) (fun _ h9 => h9) rfl d_P_canLeaveOut_14 ?_
    refine lv_aload_n hx hb d_P_canLeaveOut_17 rfl (lv_at hl 1 rfl) ?_
    refine va_get (D := G.1) (ci := 0) (v := .int lb) (C := R_P) (T := F_P) (N := 6) hx hb ht in_P hown hK hP 0 rfl rfl 5 (by decide) (ht _ kf_P_13) (fun _ h9 => h9) rfl d_P_canLeaveOut_18 ?_
    refine lv_iload_n hx hb d_P_canLeaveOut_21 rfl (lv_at hl 0 rfl) ?_
    refine lv_iconst (v := (-1)) hx hb d_P_canLeaveOut_22 (by decide) ?_
    refine lv_ixor hx hb d_P_canLeaveOut_23 ?_
    refine lv_iand hx hb d_P_canLeaveOut_24 ?_
    refine pr_i (ru_V (b := v1) (As := [.int (lb &&& (((1 : Int32) <<< (p1 &&& 31)) ^^^ (-1)))]) (rest := []) ⟨hx, hb, hml, hown, ht⟩ hKN (c_V_stayFor l G _ v1 v2 v3 g h q (lb &&& (((1 : Int32) <<< (p1 &&& 31)) ^^^ (-1))) (hP.sub [3, 4, 5] rfl) hq) kc_P_89 ⟨rfl, rfl⟩ ⟨Nat.le_of_ble_eq_true rfl, Nat.le_of_ble_eq_true rfl⟩ (va_recv hK hP (ci := 2) (q0 := 3) rfl rfl) rfl hl.1 rfl (Nat.le_of_ble_eq_true rfl) d_P_canLeaveOut_25 ⟨Nat.le_of_ble_eq_true rfl, Nat.le_of_ble_eq_true rfl⟩) ?_
    refine lv_if_eq (tgt := 35) hx hb d_P_canLeaveOut_28 (by decide) (fun c2 => ?_) (fun c2 => ?_)
    · refine lv_iconst (v := 0) hx hb d_P_canLeaveOut_35 (by decide) ?_
      exact W.zret (v := 0) hx hb hr rfl (fun t h9 _ => ⟨congrArg (fun z => Outcome.returned (some (Value.int z))) (by unfold fn_P_canLeaveOut; rw [if_neg c1, if_pos c2]), h9⟩) (fun _ h => nomatch h) d_P_canLeaveOut_36
    · refine lv_iconst (v := 1) hx hb d_P_canLeaveOut_31 (by decide) ?_
      refine lv_goto (tgt := 36) hx hb d_P_canLeaveOut_32 (by decide) ?_
      exact W.zret (v := 1) hx hb hr rfl (fun t h9 _ => ⟨congrArg (fun z => Outcome.returned (some (Value.int z))) (by unfold fn_P_canLeaveOut; rw [if_neg c1, if_neg c2]), h9⟩) (fun _ h => nomatch h) d_P_canLeaveOut_36
def lf (lb i : Int32) : Nat → Nat → Int32 → Int32
  | 0, _, _ => -1
  | k + 1, j, x => if (lb &&& ((1 : Int32) <<< (nI j &&& 31))) = 0 then lf lb i k (j + 1) x else if x = i then nI j else lf lb i k (j + 1) (x + 1)
set_option maxHeartbeats 4000000 in
set_option maxRecDepth 100000 in
theorem c_P_left (l : Launch) (G : GT) (H : Heap) (a : Nat) (d1 : Nat) (d2 : Nat) (v1 : Nat) (v2 : Nat) (v3 : Nat) (o1 : Nat) (t1 : Nat) (sd : Int64) (k : Int32) (n : Nat) (fb : Int32) (f : Nat → Int64) (g : Nat → Int32) (h : Nat → Int32) (q : Nat) (ns : Int64) (lb : Int32) (p1 : Int32) (hP : va_P G.1 classes [(a, .inr (0, [.ref d1, .ref v1, .ref o1, .ref t1, .long ns, .int lb])), (d1, .inr (1, [.ref d2, .long sd, .int k, .int (nI n), .int fb])), (d2, .inl (G.2.1, 16, .inr (.inl f))), (v1, .inr (2, [.ref v2, .ref v3, .int (nI q)])), (v2, .inl (G.2.2.1, 100, .inl g)), (v3, .inl (G.2.2.2, 100, .inl h))] H) (hn : n ≤ 16) (hq : q ≤ 100) : Met l y_P_left (Cond.code y_P_left b_P_left 4 (some .int) :: TG) ({ frames := 0, cells := 0, slots := 0, locals := 0 }) (PC G H [.ref a, .int p1]) (QcRead (lf lb p1 16 0 0)) 0 0 (fun _ => False) := by
  refine Met.ofW (cc := b_P_left) (maxL := 4) (ret := (some .int)) (by decide) rfl ?_
  intro p e s m args below meth c s₁ B hml hv
  obtain ⟨rfl, hH, hKN⟩ := hv
  subst hH
  have hx := B.exec
  have hb := B.bytes
  have hr := B.returns
  have hts := atoms_spec (ws := (Cond.code y_P_left b_P_left 4 (some .int) :: TG)) B.pre
  have ht : ∀ w ∈ TG, w.before _ s = true := fun w h => hts w (List.mem_cons_of_mem _ h)
  have hown : s.vm.findClass R_P = some m.cls := findClass_of_methodNamed B.named
  have hlocks := B.notSynchronized
  have hK := hKN.1
  have hl := lv_entry ([.ref a, .int p1]) (n := 4) (Nat.le_of_ble_eq_true rfl)
  rw [lg_entry_eq]
  generalize (lg_sl ([.ref a, .int p1]) ++ List.replicate (4 - (lg_sl ([.ref a, .int p1])).length) Slot.unset).toArray = ls at hl ⊢
  have hl : lv_has ls 4 [(0, .ref a), (1, .int p1)] := hl
  refine lv_iconst (v := 0) hx hb d_P_left_0 (by decide) ?_
  refine lv_istore_n (lv' := [(2, .int 0), (0, .ref a), (1, .int p1)]) hx hb d_P_left_1 rfl hl (by decide) rfl (fun ls hl => ?_)
  refine lv_iconst (v := 0) hx hb d_P_left_2 (by decide) ?_
  refine lv_istore_n (lv' := [(3, .int 0), (2, .int 0), (0, .ref a), (1, .int p1)]) hx hb d_P_left_3 rfl hl (by decide) rfl (fun ls hl => ?_)
  have loop : ∀ (kk j : Nat) (x : Int32) (ls : Array Slot), j + kk = 16 → lf lb p1 kk j x = lf lb p1 16 0 0 → lv_has ls 4 [(0, .ref a), (1, .int p1), (2, .int x), (3, .int (nI j))] → W p l e (headSpec (Cond.code y_P_left b_P_left 4 (some .int) :: TG) ({ frames := 0, cells := 0, slots := 0, locals := 0 })).room s m ([.ref a, .int p1] : List Value).toArray below meth c s.heap [] 0 0 (MQ below (QcRead (lf lb p1 16 0 0)) ([.ref a, .int p1] : List Value).toArray s 0 0 (fun _ => False)) (F0 m 4 ls []) := by
    intro kk
    induction kk with
    | zero =>
      intro j x ls hj hv hl
      refine lv_iload_n hx hb d_P_left_4 rfl (lv_at hl 3 rfl) ?_
      refine lv_bipush (v := 16) hx hb d_P_left_5 (by decide) ?_
      refine lv_icmp_ge (tgt := 37) hx hb d_P_left_7 (by decide) (fun c1 => ?_) (fun c1 => ?_)
      · refine lv_iconst (v := (-1)) hx hb d_P_left_37 (by decide) ?_
        exact W.iret (v := (-1)) hx hb hr (fun t h9 _ => ⟨congrArg (fun z => Outcome.returned (some (Value.int z))) (by rw [← hv]; simp only [lf]), h9⟩) (fun _ h => nomatch h) d_P_left_38
      · exact absurd (show (16 : Int32) ≤ nI j from by rw [show j = 16 by omega]; decide) c1
    | succ kk ih =>
      intro j x ls hj hv hl
      refine lv_iload_n hx hb d_P_left_4 rfl (lv_at hl 3 rfl) ?_
      refine lv_bipush (v := 16) hx hb d_P_left_5 (by decide) ?_
      refine lv_icmp_ge (tgt := 37) hx hb d_P_left_7 (by decide) (fun c2 => ?_) (fun c2 => ?_)
      · exact absurd c2 (nI_ge (a := j) (b := 16) (by omega) (by decide))
      · refine lv_aload_n hx hb d_P_left_10 rfl (lv_at hl 0 rfl) ?_
        refine va_get (D := G.1) (ci := 0) (v := .int lb) (C := R_P) (T := F_P) (N := 6) hx hb ht in_P hown hK hP 0 rfl rfl 5 (by decide) (ht _ kf_P_13) (fun _ h9 => h9) rfl d_P_left_11 ?_
        refine lv_iconst (v := 1) hx hb d_P_left_14 (by decide) ?_
        refine lv_iload_n hx hb d_P_left_15 rfl (lv_at hl 3 rfl) ?_
        refine lv_ishl hx hb d_P_left_16 ?_
        refine lv_iand hx hb d_P_left_17 ?_
        refine lv_if_eq (tgt := 31) hx hb d_P_left_18 (by decide) (fun c3 => ?_) (fun c3 => ?_)
        · refine lv_iinc (v := nI (j + 1)) (lv' := [(3, .int (nI (j + 1))), (0, .ref a), (1, .int p1), (2, .int x)]) hx hb d_P_left_31 hl (k := 3) rfl (nI_1 j) (by decide) rfl (fun ls hl => ?_)
          refine lv_goto (tgt := 4) hx hb d_P_left_34 (by decide) ?_
          exact ih (j + 1) x ls (by omega) (by rw [← hv]; simp only [lf]; rw [if_pos c3]) (lv_sub hl [1, 2, 3, 0] rfl)
        · refine lv_iload_n hx hb d_P_left_21 rfl (lv_at hl 2 rfl) ?_
          refine lv_iload_n hx hb d_P_left_22 rfl (lv_at hl 1 rfl) ?_
          refine lv_icmp_ne (tgt := 28) hx hb d_P_left_23 (by decide) (fun c4 => ?_) (fun c4 => ?_)
          · refine lv_iinc (v := x + 1) (lv' := [(2, .int (x + 1)), (0, .ref a), (1, .int p1), (3, .int (nI j))]) hx hb d_P_left_28 hl (k := 2) rfl rfl (by decide) rfl (fun ls hl => ?_)
            refine lv_iinc (v := nI (j + 1)) (lv' := [(3, .int (nI (j + 1))), (2, .int (x + 1)), (0, .ref a), (1, .int p1)]) hx hb d_P_left_31 hl (k := 3) rfl (nI_1 j) (by decide) rfl (fun ls hl => ?_)
            refine lv_goto (tgt := 4) hx hb d_P_left_34 (by decide) ?_
            exact ih (j + 1) (x + 1) ls (by omega) (by rw [← hv]; simp only [lf]; rw [if_neg c3, if_neg c4]) (lv_sub hl [2, 3, 1, 0] rfl)
          · refine lv_iload_n hx hb d_P_left_26 rfl (lv_at hl 3 rfl) ?_
            exact W.iret (v := nI j) hx hb hr (fun t h9 _ => ⟨congrArg (fun z => Outcome.returned (some (Value.int z))) (by rw [← hv]; simp only [lf]; rw [if_neg c3, if_pos c4]), h9⟩) (fun _ h => nomatch h) d_P_left_27
  exact loop 16 0 0 ls (by omega) rfl (by exact lv_sub hl [2, 3, 1, 0] rfl)
def mn (g h : Nat → Int32) (q : Nat) (lb : Int32) : Nat → Nat → Int32
  | 0, _ => 1
  | k + 1, j => if fn_P_canLeaveOut g h q lb (nI j) = 0 then mn g h q lb k (j + 1) else 0
def mnm (n : Nat) (g h : Nat → Int32) (q : Nat) (lb : Int32) : Int32 := if fn_D_isEmpty n = 0 then (if fn_V_stayFor g h q lb = 0 then 0 else mn g h q lb 16 0) else 0
set_option maxHeartbeats 4000000 in
set_option maxRecDepth 100000 in
theorem c_P_minimal (l : Launch) (G : GT) (H : Heap) (a : Nat) (d1 : Nat) (d2 : Nat) (v1 : Nat) (v2 : Nat) (v3 : Nat) (o1 : Nat) (t1 : Nat) (sd : Int64) (k : Int32) (n : Nat) (fb : Int32) (f : Nat → Int64) (g : Nat → Int32) (h : Nat → Int32) (q : Nat) (ns : Int64) (lb : Int32) (hP : va_P G.1 classes [(a, .inr (0, [.ref d1, .ref v1, .ref o1, .ref t1, .long ns, .int lb])), (d1, .inr (1, [.ref d2, .long sd, .int k, .int (nI n), .int fb])), (d2, .inl (G.2.1, 16, .inr (.inl f))), (v1, .inr (2, [.ref v2, .ref v3, .int (nI q)])), (v2, .inl (G.2.2.1, 100, .inl g)), (v3, .inl (G.2.2.2, 100, .inl h))] H) (hn : n ≤ 16) (hq : q ≤ 100) : Met l y_P_minimal (Cond.code y_P_minimal b_P_minimal 2 (some .boolean) :: TG) ({ frames := 3, cells := 0, slots := 0, locals := 66 }) (PC G H [.ref a]) (QcRead (mnm n g h q lb)) 0 0 (fun _ => False) := by
  refine Met.ofW (cc := b_P_minimal) (maxL := 2) (ret := (some .boolean)) (by decide) rfl ?_
  intro p e s m args below meth c s₁ B hml hv
  obtain ⟨rfl, hH, hKN⟩ := hv
  subst hH
  have hx := B.exec
  have hb := B.bytes
  have hr := B.returns
  have hts := atoms_spec (ws := (Cond.code y_P_minimal b_P_minimal 2 (some .boolean) :: TG)) B.pre
  have ht : ∀ w ∈ TG, w.before _ s = true := fun w h => hts w (List.mem_cons_of_mem _ h)
  have hown : s.vm.findClass R_P = some m.cls := findClass_of_methodNamed B.named
  have hlocks := B.notSynchronized
  have hK := hKN.1
  have hl := lv_entry ([.ref a]) (n := 2) (Nat.le_of_ble_eq_true rfl)
  rw [lg_entry_eq]
  generalize (lg_sl ([.ref a]) ++ List.replicate (2 - (lg_sl ([.ref a])).length) Slot.unset).toArray = ls at hl ⊢
  have hl : lv_has ls 2 [(0, .ref a)] := hl
  refine lv_aload_n hx hb d_P_minimal_0 rfl (lv_at hl 0 rfl) ?_
  refine va_get (D := G.1) (ci := 0) (v := .ref d1) (C := R_P) (T := F_P) (N := 6) hx hb ht in_P hown hK hP 0 rfl rfl 0 (by decide) (ht _ kf_P_20) (fun _ h9 => h9) rfl d_P_minimal_1 ?_
  refine pr_i (ru_V (b := d1) (As := []) (rest := []) ⟨hx, hb, hml, hown, ht⟩ hKN (c_D_isEmpty l G _ d1 d2 sd k n fb f (hP.sub [1, 2] rfl) hn) kc_P_80 ⟨rfl, rfl⟩ ⟨Nat.le_of_ble_eq_true rfl, Nat.le_of_ble_eq_true rfl⟩ (va_recv hK hP (ci := 1) (q0 := 1) rfl rfl) rfl hl.1 rfl (Nat.le_of_ble_eq_true rfl) d_P_minimal_4 ⟨Nat.le_of_ble_eq_true rfl, Nat.le_of_ble_eq_true rfl⟩) ?_
  refine lv_if_ne (tgt := 24) hx hb d_P_minimal_7 (by decide) (fun c1 => ?_) (fun c1 => ?_)
  · refine lv_iconst (v := 0) hx hb d_P_minimal_24 (by decide) ?_
    exact W.zret (v := 0) hx hb hr rfl (fun t h9 _ => ⟨congrArg (fun z => Outcome.returned (some (Value.int z))) (by unfold mnm; rw [if_neg c1]), h9⟩) (fun _ h => nomatch h) d_P_minimal_25
  · refine lv_aload_n hx hb d_P_minimal_10 rfl (lv_at hl 0 rfl) ?_
    refine va_get (D := G.1) (ci := 0) (v := .ref v1) (C := R_P) (T := F_P) (N := 6) hx hb ht in_P hown hK hP 0 rfl rfl 1 (by decide) (ht _ kf_P_33) (fun _ h9 => h9) rfl d_P_minimal_11 ?_
    refine lv_aload_n hx hb d_P_minimal_14 rfl (lv_at hl 0 rfl) ?_
    refine va_get (D := G.1) (ci := 0) (v := .int lb) (C := R_P) (T := F_P) (N := 6) hx hb ht in_P hown hK hP 0 rfl rfl 5 (by decide) (ht _ kf_P_13) (fun _ h9 => h9) rfl d_P_minimal_15 ?_
    refine pr_i (ru_V (b := v1) (As := [.int lb]) (rest := []) ⟨hx, hb, hml, hown, ht⟩ hKN (c_V_stayFor l G _ v1 v2 v3 g h q lb (hP.sub [3, 4, 5] rfl) hq) kc_P_89 ⟨rfl, rfl⟩ ⟨Nat.le_of_ble_eq_true rfl, Nat.le_of_ble_eq_true rfl⟩ (va_recv hK hP (ci := 2) (q0 := 3) rfl rfl) rfl hl.1 rfl (Nat.le_of_ble_eq_true rfl) d_P_minimal_18 ⟨Nat.le_of_ble_eq_true rfl, Nat.le_of_ble_eq_true rfl⟩) ?_
    refine lv_if_ne (tgt := 26) hx hb d_P_minimal_21 (by decide) (fun c2 => ?_) (fun c2 => ?_)
    · refine lv_iconst (v := 0) hx hb d_P_minimal_26 (by decide) ?_
      refine lv_istore_n (lv' := [(1, .int 0), (0, .ref a)]) hx hb d_P_minimal_27 rfl hl (by decide) rfl (fun ls hl => ?_)
      have hm : mnm n g h q lb = mn g h q lb 16 0 := by unfold mnm; rw [if_pos c1, if_neg c2]
      have loop : ∀ (kk j : Nat) (ls : Array Slot), j + kk = 16 → mn g h q lb kk j = mn g h q lb 16 0 → lv_has ls 2 [(0, .ref a), (1, .int (nI j))] → W p l e (headSpec (Cond.code y_P_minimal b_P_minimal 2 (some .boolean) :: TG) ({ frames := 3, cells := 0, slots := 0, locals := 66 })).room s m ([.ref a] : List Value).toArray below meth c s.heap [] 0 0 (MQ below (QcRead (mnm n g h q lb)) ([.ref a] : List Value).toArray s 0 0 (fun _ => False)) (F0 m 28 ls []) := by
        intro kk
        induction kk with
        | zero =>
          intro j  ls hj hv hl
          refine lv_iload_n hx hb d_P_minimal_28 rfl (lv_at hl 1 rfl) ?_
          refine lv_bipush (v := 16) hx hb d_P_minimal_29 (by decide) ?_
          refine lv_icmp_ge (tgt := 50) hx hb d_P_minimal_31 (by decide) (fun c3 => ?_) (fun c3 => ?_)
          · refine lv_iconst (v := 1) hx hb d_P_minimal_50 (by decide) ?_
            exact W.zret (v := 1) hx hb hr rfl (fun t h9 _ => ⟨congrArg (fun z => Outcome.returned (some (Value.int z))) (by rw [hm, ← hv]; simp only [mn]), h9⟩) (fun _ h => nomatch h) d_P_minimal_51
          · exact absurd (show (16 : Int32) ≤ nI j from by rw [show j = 16 by omega]; decide) c3
        | succ kk ih =>
          intro j  ls hj hv hl
          refine lv_iload_n hx hb d_P_minimal_28 rfl (lv_at hl 1 rfl) ?_
          refine lv_bipush (v := 16) hx hb d_P_minimal_29 (by decide) ?_
          refine lv_icmp_ge (tgt := 50) hx hb d_P_minimal_31 (by decide) (fun c4 => ?_) (fun c4 => ?_)
          · exact absurd c4 (nI_ge (a := j) (b := 16) (by omega) (by decide))
          · refine lv_aload_n hx hb d_P_minimal_34 rfl (lv_at hl 0 rfl) ?_
            refine lv_iload_n hx hb d_P_minimal_35 rfl (lv_at hl 1 rfl) ?_
            refine pr_i (ru_V (b := a) (As := [.int (nI j)]) (rest := []) ⟨hx, hb, hml, hown, ht⟩ hKN (c_P_canLeaveOut l G _ a d1 d2 v1 v2 v3 o1 t1 sd k n fb f g h q ns lb (nI j) (hP.sub [0, 1, 2, 3, 4, 5] rfl) hn hq) kc_P_101 ⟨rfl, rfl⟩ ⟨Nat.le_of_ble_eq_true rfl, Nat.le_of_ble_eq_true rfl⟩ (va_recv hK hP (ci := 0) (q0 := 0) rfl rfl) rfl hl.1 rfl (Nat.le_of_ble_eq_true rfl) d_P_minimal_36 ⟨Nat.le_of_ble_eq_true rfl, Nat.le_of_ble_eq_true rfl⟩) ?_
            refine lv_if_eq (tgt := 44) hx hb d_P_minimal_39 (by decide) (fun c5 => ?_) (fun c5 => ?_)
            · refine lv_iinc (v := nI (j + 1)) (lv' := [(1, .int (nI (j + 1))), (0, .ref a)]) hx hb d_P_minimal_44 hl (k := 1) rfl (nI_1 j) (by decide) rfl (fun ls hl => ?_)
              refine lv_goto (tgt := 28) hx hb d_P_minimal_47 (by decide) ?_
              exact ih (j + 1) ls (by omega) (by rw [← hv]; simp only [mn]; rw [if_pos c5]) (lv_sub hl [1, 0] rfl)
            · refine lv_iconst (v := 0) hx hb d_P_minimal_42 (by decide) ?_
              exact W.zret (v := 0) hx hb hr rfl (fun t h9 _ => ⟨congrArg (fun z => Outcome.returned (some (Value.int z))) (by rw [hm, ← hv]; simp only [mn]; rw [if_neg c5]), h9⟩) (fun _ h => nomatch h) d_P_minimal_43
      exact loop 16 0 ls (by omega) rfl (by exact lv_sub hl [1, 0] rfl)
    · refine lv_iconst (v := 0) hx hb d_P_minimal_24 (by decide) ?_
      exact W.zret (v := 0) hx hb hr rfl (fun t h9 _ => ⟨congrArg (fun z => Outcome.returned (some (Value.int z))) (by unfold mnm; rw [if_pos c1, if_pos c2]), h9⟩) (fun _ h => nomatch h) d_P_minimal_25
/-- one going through, up to part j -/
def gt (g h : Nat → Int32) (q : Nat) (lb : Int32) : Nat → Int32
  | 0 => lb
  | j + 1 => if fn_P_canLeaveOut g h q (gt g h q lb j) (nI j) = 0 then gt g h q lb j else gt g h q lb j &&& (((1 : Int32) <<< (nI j &&& 31)) ^^^ (-1))
set_option maxHeartbeats 4000000 in
set_option maxRecDepth 100000 in
theorem c_P_goThrough (l : Launch) (G : GT) (H : Heap) (a : Nat) (d1 : Nat) (d2 : Nat) (v1 : Nat) (v2 : Nat) (v3 : Nat) (o1 : Nat) (t1 : Nat) (sd : Int64) (k : Int32) (n : Nat) (fb : Int32) (f : Nat → Int64) (g : Nat → Int32) (h : Nat → Int32) (q : Nat) (ns : Int64) (lb : Int32) (hP : va_P G.1 classes [(a, .inr (0, [.ref d1, .ref v1, .ref o1, .ref t1, .long ns, .int lb])), (d1, .inr (1, [.ref d2, .long sd, .int k, .int (nI n), .int fb])), (d2, .inl (G.2.1, 16, .inr (.inl f))), (v1, .inr (2, [.ref v2, .ref v3, .int (nI q)])), (v2, .inl (G.2.2.1, 100, .inl g)), (v3, .inl (G.2.2.2, 100, .inl h))] H) (hD0 : va_D (fun _ => True) [(a, .inr (0, [.ref d1, .ref v1, .ref o1, .ref t1, .long ns, .int lb])), (d1, .inr (1, [.ref d2, .long sd, .int k, .int (nI n), .int fb])), (d2, .inl (G.2.1, 16, .inr (.inl f))), (v1, .inr (2, [.ref v2, .ref v3, .int (nI q)])), (v2, .inl (G.2.2.1, 100, .inl g)), (v3, .inl (G.2.2.2, 100, .inl h))]) (hn : n ≤ 16) (hq : q ≤ 100) : Met l y_P_goThrough (Cond.code y_P_goThrough b_P_goThrough 2 none :: TG) ({ frames := 3, cells := 0, slots := 0, locals := 66 }) (PC G H [.ref a]) (QMv G [(a, .inr (0, [.ref d1, .ref v1, .ref o1, .ref t1, .long ns, .int (gt g h q lb 16)])), (d1, .inr (1, [.ref d2, .long sd, .int k, .int (nI n), .int fb])), (d2, .inl (G.2.1, 16, .inr (.inl f))), (v1, .inr (2, [.ref v2, .ref v3, .int (nI q)])), (v2, .inl (G.2.2.1, 100, .inl g)), (v3, .inl (G.2.2.2, 100, .inl h))] (va_A [(a, .inr (0, [.ref d1, .ref v1, .ref o1, .ref t1, .long ns, .int lb])), (d1, .inr (1, [.ref d2, .long sd, .int k, .int (nI n), .int fb])), (d2, .inl (G.2.1, 16, .inr (.inl f))), (v1, .inr (2, [.ref v2, .ref v3, .int (nI q)])), (v2, .inl (G.2.2.1, 100, .inl g)), (v3, .inl (G.2.2.2, 100, .inl h))] H.size)) 0 0 (va_A [(a, .inr (0, [.ref d1, .ref v1, .ref o1, .ref t1, .long ns, .int lb])), (d1, .inr (1, [.ref d2, .long sd, .int k, .int (nI n), .int fb])), (d2, .inl (G.2.1, 16, .inr (.inl f))), (v1, .inr (2, [.ref v2, .ref v3, .int (nI q)])), (v2, .inl (G.2.2.1, 100, .inl g)), (v3, .inl (G.2.2.2, 100, .inl h))] H.size) := by
  refine Met.ofW (cc := b_P_goThrough) (maxL := 2) (ret := none) (by decide) rfl ?_
  intro p e s m args below meth c s₁ B hml hv
  obtain ⟨rfl, hH, hKN⟩ := hv
  subst hH
  have hx := B.exec
  have hb := B.bytes
  have hr := B.returns
  have hts := atoms_spec (ws := (Cond.code y_P_goThrough b_P_goThrough 2 none :: TG)) B.pre
  have ht : ∀ w ∈ TG, w.before _ s = true := fun w h => hts w (List.mem_cons_of_mem _ h)
  have hown : s.vm.findClass R_P = some m.cls := findClass_of_methodNamed B.named
  have hlocks := B.notSynchronized
  have hK := hKN.1
  have hl := lv_entry ([.ref a]) (n := 2) (Nat.le_of_ble_eq_true rfl)
  rw [lg_entry_eq]
  generalize (lg_sl ([.ref a]) ++ List.replicate (2 - (lg_sl ([.ref a])).length) Slot.unset).toArray = ls at hl ⊢
  have hl : lv_has ls 2 [(0, .ref a)] := hl
  have hD := hD0.self (sz := s.heap.size)
  generalize hAe : va_A [(a, .inr (0, [.ref d1, .ref v1, .ref o1, .ref t1, .long ns, .int lb])), (d1, .inr (1, [.ref d2, .long sd, .int k, .int (nI n), .int fb])), (d2, .inl (G.2.1, 16, .inr (.inl f))), (v1, .inr (2, [.ref v2, .ref v3, .int (nI q)])), (v2, .inl (G.2.2.1, 100, .inl g)), (v3, .inl (G.2.2.2, 100, .inl h))] s.heap.size = A at hD ⊢
  have hA : ∀ q : Nat, s.heap.size ≤ q → A q := fun q h => by rw [← hAe]; exact Or.inr h
  have hS : va_S A s.heap s.heap [] := va_S.rf
  refine lv_iconst (v := 0) hx hb d_P_goThrough_0 (by decide) ?_
  refine lv_istore_n (lv' := [(1, .int 0), (0, .ref a)]) hx hb d_P_goThrough_1 rfl hl (by decide) rfl (fun ls hl => ?_)
  have loop : ∀ (kk j : Nat) (H : Heap) (locs : List Loc) (ls : Array Slot), j + kk = 16 → va_P G.1 classes [(a, .inr (0, [.ref d1, .ref v1, .ref o1, .ref t1, .long ns, .int (gt g h q lb j)])), (d1, .inr (1, [.ref d2, .long sd, .int k, .int (nI n), .int fb])), (d2, .inl (G.2.1, 16, .inr (.inl f))), (v1, .inr (2, [.ref v2, .ref v3, .int (nI q)])), (v2, .inl (G.2.2.1, 100, .inl g)), (v3, .inl (G.2.2.2, 100, .inl h))] H → va_D A [(a, .inr (0, [.ref d1, .ref v1, .ref o1, .ref t1, .long ns, .int (gt g h q lb j)])), (d1, .inr (1, [.ref d2, .long sd, .int k, .int (nI n), .int fb])), (d2, .inl (G.2.1, 16, .inr (.inl f))), (v1, .inr (2, [.ref v2, .ref v3, .int (nI q)])), (v2, .inl (G.2.2.1, 100, .inl g)), (v3, .inl (G.2.2.2, 100, .inl h))] → va_S A s.heap H locs → lv_has ls 2 [(0, .ref a), (1, .int (nI j))] → W p l e (headSpec (Cond.code y_P_goThrough b_P_goThrough 2 none :: TG) ({ frames := 3, cells := 0, slots := 0, locals := 66 })).room s m ([.ref a] : List Value).toArray below meth c H locs 0 0 (MQ below (QMv G [(a, .inr (0, [.ref d1, .ref v1, .ref o1, .ref t1, .long ns, .int (gt g h q lb 16)])), (d1, .inr (1, [.ref d2, .long sd, .int k, .int (nI n), .int fb])), (d2, .inl (G.2.1, 16, .inr (.inl f))), (v1, .inr (2, [.ref v2, .ref v3, .int (nI q)])), (v2, .inl (G.2.2.1, 100, .inl g)), (v3, .inl (G.2.2.2, 100, .inl h))] A) ([.ref a] : List Value).toArray s 0 0 A) (F0 m 2 ls []) := by
    intro kk
    induction kk with
    | zero =>
      intro j  H locs ls hj  hP hD hS hl
      refine lv_iload_n hx hb d_P_goThrough_2 rfl (lv_at hl 1 rfl) ?_
      refine lv_bipush (v := 16) hx hb d_P_goThrough_3 (by decide) ?_
      refine lv_icmp_ge (tgt := 36) hx hb d_P_goThrough_5 (by decide) (fun c1 => ?_) (fun c1 => ?_)
      · exact W.vret hx hb hr (fun t h9 _ => ⟨⟨(), rfl, trivial, by show va_P _ _ _ t.heap; rw [h9]; exact (by rw [show j = 16 by omega] at hP; exact hP)⟩, hS.F h9⟩) hS.2.2 d_P_goThrough_36
      · exact absurd (show (16 : Int32) ≤ nI j from by rw [show j = 16 by omega]; decide) c1
    | succ kk ih =>
      intro j  H locs ls hj  hP hD hS hl
      refine lv_iload_n hx hb d_P_goThrough_2 rfl (lv_at hl 1 rfl) ?_
      refine lv_bipush (v := 16) hx hb d_P_goThrough_3 (by decide) ?_
      refine lv_icmp_ge (tgt := 36) hx hb d_P_goThrough_5 (by decide) (fun c2 => ?_) (fun c2 => ?_)
      · exact absurd c2 (nI_ge (a := j) (b := 16) (by omega) (by decide))
      · refine lv_aload_n hx hb d_P_goThrough_8 rfl (lv_at hl 0 rfl) ?_
        refine lv_iload_n hx hb d_P_goThrough_9 rfl (lv_at hl 1 rfl) ?_
        refine pr_i (ru_V (b := a) (As := [.int (nI j)]) (rest := []) ⟨hx, hb, hml, hown, ht⟩ hKN (c_P_canLeaveOut l G _ a d1 d2 v1 v2 v3 o1 t1 sd k n fb f g h q ns (gt g h q lb j) (nI j) (hP.sub [0, 1, 2, 3, 4, 5] rfl) hn hq) kc_P_101 ⟨rfl, rfl⟩ ⟨Nat.le_of_ble_eq_true rfl, Nat.le_of_ble_eq_true rfl⟩ (va_recv hK hP (ci := 0) (q0 := 0) rfl rfl) rfl hl.1 rfl (Nat.le_of_ble_eq_true rfl) d_P_goThrough_10 ⟨Nat.le_of_ble_eq_true rfl, Nat.le_of_ble_eq_true rfl⟩) ?_
        refine lv_if_eq (tgt := 30) hx hb d_P_goThrough_13 (by decide) (fun c3 => ?_) (fun c3 => ?_)
        · refine lv_iinc (v := nI (j + 1)) (lv' := [(1, .int (nI (j + 1))), (0, .ref a)]) hx hb d_P_goThrough_30 hl (k := 1) rfl (nI_1 j) (by decide) rfl (fun ls hl => ?_)
          refine lv_goto (tgt := 2) hx hb d_P_goThrough_33 (by decide) ?_
          have e9 : gt g h q lb (j + 1) = gt g h q lb j := by simp only [gt]; rw [if_pos c3]
          rw [← e9] at hP hD
          exact ih (j + 1) H locs ls (by omega) hP hD hS (lv_sub hl [1, 0] rfl)
        · refine lv_aload_n hx hb d_P_goThrough_16 rfl (lv_at hl 0 rfl) ?_
          refine lv_dup hx hb d_P_goThrough_17 rfl ?_
          refine va_get (D := G.1) (ci := 0) (v := .int (gt g h q lb j)) (C := R_P) (T := F_P) (N := 6) hx hb ht in_P hown hK hP 0 rfl rfl 5 (by decide) (ht _ kf_P_13) (fun _ h9 => h9) rfl d_P_goThrough_18 ?_
          refine lv_iconst (v := 1) hx hb d_P_goThrough_21 (by decide) ?_
          refine lv_iload_n hx hb d_P_goThrough_22 rfl (lv_at hl 1 rfl) ?_
          refine lv_ishl hx hb d_P_goThrough_23 ?_
          refine lv_iconst (v := (-1)) hx hb d_P_goThrough_24 (by decide) ?_
          refine lv_ixor hx hb d_P_goThrough_25 ?_
          refine lv_iand hx hb d_P_goThrough_26 ?_
          refine va_put (D := G.1) (ci := 0) (v := .int ((gt g h q lb j) &&& (((1 : Int32) <<< ((nI j) &&& 31)) ^^^ (-1)))) (ty := .int) (C := R_P) (T := F_P) (N := 6) hx hb ht in_P t_P tk_P n_P hown hK hP hD hS 0 rfl rfl 5 (by decide) (ht _ kf_P_13) (fun _ h9 => h9) rfl (by decide +kernel) rfl rfl (Nat.le_of_ble_eq_true rfl) d_P_goThrough_27 (fun H locs hP hD hS => ?_)
          have hP : va_P G.1 classes [(a, .inr (0, [.ref d1, .ref v1, .ref o1, .ref t1, .long ns, .int ((gt g h q lb j) &&& (((1 : Int32) <<< ((nI j) &&& 31)) ^^^ (-1)))])), (d1, .inr (1, [.ref d2, .long sd, .int k, .int (nI n), .int fb])), (d2, .inl (G.2.1, 16, .inr (.inl f))), (v1, .inr (2, [.ref v2, .ref v3, .int (nI q)])), (v2, .inl (G.2.2.1, 100, .inl g)), (v3, .inl (G.2.2.2, 100, .inl h))] H := hP
          have hD : va_D A [(a, .inr (0, [.ref d1, .ref v1, .ref o1, .ref t1, .long ns, .int ((gt g h q lb j) &&& (((1 : Int32) <<< ((nI j) &&& 31)) ^^^ (-1)))])), (d1, .inr (1, [.ref d2, .long sd, .int k, .int (nI n), .int fb])), (d2, .inl (G.2.1, 16, .inr (.inl f))), (v1, .inr (2, [.ref v2, .ref v3, .int (nI q)])), (v2, .inl (G.2.2.1, 100, .inl g)), (v3, .inl (G.2.2.2, 100, .inl h))] := hD
          refine lv_iinc (v := nI (j + 1)) (lv' := [(1, .int (nI (j + 1))), (0, .ref a)]) hx hb d_P_goThrough_30 hl (k := 1) rfl (nI_1 j) (by decide) rfl (fun ls hl => ?_)
          refine lv_goto (tgt := 2) hx hb d_P_goThrough_33 (by decide) ?_
          have e9 : gt g h q lb (j + 1) = ((gt g h q lb j) &&& (((1 : Int32) <<< ((nI j) &&& 31)) ^^^ (-1))) := by simp only [gt]; rw [if_neg c3]
          rw [← e9] at hP hD
          exact ih (j + 1) H locs ls (by omega) hP hD hS (lv_sub hl [1, 0] rfl)
  exact loop 16 0 _ _ ls (by omega) hP hD hS (by exact lv_sub hl [1, 0] rfl)
def la (g h : Nat → Int32) (q : Nat) : Nat → Int32 → Int32
  | 0, b => b
  | k + 1, b => if gt g h q b 16 = b then b else la g h q k (gt g h q b 16)
set_option maxHeartbeats 4000000 in
set_option maxRecDepth 100000 in
theorem c_P_leaveOutAll (l : Launch) (G : GT) (H : Heap) (a : Nat) (d1 : Nat) (d2 : Nat) (v1 : Nat) (v2 : Nat) (v3 : Nat) (o1 : Nat) (t1 : Nat) (sd : Int64) (k : Int32) (n : Nat) (fb : Int32) (f : Nat → Int64) (g : Nat → Int32) (h : Nat → Int32) (q : Nat) (ns : Int64) (lb : Int32) (hP : va_P G.1 classes [(a, .inr (0, [.ref d1, .ref v1, .ref o1, .ref t1, .long ns, .int lb])), (d1, .inr (1, [.ref d2, .long sd, .int k, .int (nI n), .int fb])), (d2, .inl (G.2.1, 16, .inr (.inl f))), (v1, .inr (2, [.ref v2, .ref v3, .int (nI q)])), (v2, .inl (G.2.2.1, 100, .inl g)), (v3, .inl (G.2.2.2, 100, .inl h))] H) (hD0 : va_D (fun _ => True) [(a, .inr (0, [.ref d1, .ref v1, .ref o1, .ref t1, .long ns, .int lb])), (d1, .inr (1, [.ref d2, .long sd, .int k, .int (nI n), .int fb])), (d2, .inl (G.2.1, 16, .inr (.inl f))), (v1, .inr (2, [.ref v2, .ref v3, .int (nI q)])), (v2, .inl (G.2.2.1, 100, .inl g)), (v3, .inl (G.2.2.2, 100, .inl h))]) (hn : n ≤ 16) (hq : q ≤ 100) : Met l y_P_leaveOutAll (Cond.code y_P_leaveOutAll b_P_leaveOutAll 3 none :: TG) ({ frames := 4, cells := 0, slots := 0, locals := 87 }) (PC G H [.ref a]) (QMv G [(a, .inr (0, [.ref d1, .ref v1, .ref o1, .ref t1, .long ns, .int (la g h q 16 lb)])), (d1, .inr (1, [.ref d2, .long sd, .int k, .int (nI n), .int fb])), (d2, .inl (G.2.1, 16, .inr (.inl f))), (v1, .inr (2, [.ref v2, .ref v3, .int (nI q)])), (v2, .inl (G.2.2.1, 100, .inl g)), (v3, .inl (G.2.2.2, 100, .inl h))] (va_A [(a, .inr (0, [.ref d1, .ref v1, .ref o1, .ref t1, .long ns, .int lb])), (d1, .inr (1, [.ref d2, .long sd, .int k, .int (nI n), .int fb])), (d2, .inl (G.2.1, 16, .inr (.inl f))), (v1, .inr (2, [.ref v2, .ref v3, .int (nI q)])), (v2, .inl (G.2.2.1, 100, .inl g)), (v3, .inl (G.2.2.2, 100, .inl h))] H.size)) 0 0 (va_A [(a, .inr (0, [.ref d1, .ref v1, .ref o1, .ref t1, .long ns, .int lb])), (d1, .inr (1, [.ref d2, .long sd, .int k, .int (nI n), .int fb])), (d2, .inl (G.2.1, 16, .inr (.inl f))), (v1, .inr (2, [.ref v2, .ref v3, .int (nI q)])), (v2, .inl (G.2.2.1, 100, .inl g)), (v3, .inl (G.2.2.2, 100, .inl h))] H.size) := by
  refine Met.ofW (cc := b_P_leaveOutAll) (maxL := 3) (ret := none) (by decide) rfl ?_
  intro p e s m args below meth c s₁ B hml hv
  obtain ⟨rfl, hH, hKN⟩ := hv
  subst hH
  have hx := B.exec
  have hb := B.bytes
  have hr := B.returns
  have hts := atoms_spec (ws := (Cond.code y_P_leaveOutAll b_P_leaveOutAll 3 none :: TG)) B.pre
  have ht : ∀ w ∈ TG, w.before _ s = true := fun w h => hts w (List.mem_cons_of_mem _ h)
  have hown : s.vm.findClass R_P = some m.cls := findClass_of_methodNamed B.named
  have hlocks := B.notSynchronized
  have hK := hKN.1
  have hl := lv_entry ([.ref a]) (n := 3) (Nat.le_of_ble_eq_true rfl)
  rw [lg_entry_eq]
  generalize (lg_sl ([.ref a]) ++ List.replicate (3 - (lg_sl ([.ref a])).length) Slot.unset).toArray = ls at hl ⊢
  have hl : lv_has ls 3 [(0, .ref a)] := hl
  have hD := hD0.self (sz := s.heap.size)
  generalize hAe : va_A [(a, .inr (0, [.ref d1, .ref v1, .ref o1, .ref t1, .long ns, .int lb])), (d1, .inr (1, [.ref d2, .long sd, .int k, .int (nI n), .int fb])), (d2, .inl (G.2.1, 16, .inr (.inl f))), (v1, .inr (2, [.ref v2, .ref v3, .int (nI q)])), (v2, .inl (G.2.2.1, 100, .inl g)), (v3, .inl (G.2.2.2, 100, .inl h))] s.heap.size = A at hD ⊢
  have hA : ∀ q : Nat, s.heap.size ≤ q → A q := fun q h => by rw [← hAe]; exact Or.inr h
  have hS : va_S A s.heap s.heap [] := va_S.rf
  refine lv_iconst (v := 0) hx hb d_P_leaveOutAll_0 (by decide) ?_
  refine lv_istore_n (lv' := [(1, .int 0), (0, .ref a)]) hx hb d_P_leaveOutAll_1 rfl hl (by decide) rfl (fun ls hl => ?_)
  have loop : ∀ (kk j : Nat) (x : Int32) (H : Heap) (locs : List Loc) (ls : Array Slot), j + kk = 16 → la g h q kk x = la g h q 16 lb → va_P G.1 classes [(a, .inr (0, [.ref d1, .ref v1, .ref o1, .ref t1, .long ns, .int x])), (d1, .inr (1, [.ref d2, .long sd, .int k, .int (nI n), .int fb])), (d2, .inl (G.2.1, 16, .inr (.inl f))), (v1, .inr (2, [.ref v2, .ref v3, .int (nI q)])), (v2, .inl (G.2.2.1, 100, .inl g)), (v3, .inl (G.2.2.2, 100, .inl h))] H → va_D A [(a, .inr (0, [.ref d1, .ref v1, .ref o1, .ref t1, .long ns, .int x])), (d1, .inr (1, [.ref d2, .long sd, .int k, .int (nI n), .int fb])), (d2, .inl (G.2.1, 16, .inr (.inl f))), (v1, .inr (2, [.ref v2, .ref v3, .int (nI q)])), (v2, .inl (G.2.2.1, 100, .inl g)), (v3, .inl (G.2.2.2, 100, .inl h))] → va_S A s.heap H locs → lv_has ls 3 [(0, .ref a), (1, .int (nI j))] → W p l e (headSpec (Cond.code y_P_leaveOutAll b_P_leaveOutAll 3 none :: TG) ({ frames := 4, cells := 0, slots := 0, locals := 87 })).room s m ([.ref a] : List Value).toArray below meth c H locs 0 0 (MQ below (QMv G [(a, .inr (0, [.ref d1, .ref v1, .ref o1, .ref t1, .long ns, .int (la g h q 16 lb)])), (d1, .inr (1, [.ref d2, .long sd, .int k, .int (nI n), .int fb])), (d2, .inl (G.2.1, 16, .inr (.inl f))), (v1, .inr (2, [.ref v2, .ref v3, .int (nI q)])), (v2, .inl (G.2.2.1, 100, .inl g)), (v3, .inl (G.2.2.2, 100, .inl h))] A) ([.ref a] : List Value).toArray s 0 0 A) (F0 m 2 ls []) := by
    intro kk
    induction kk with
    | zero =>
      intro j x H locs ls hj hv hP hD hS hl
      refine lv_iload_n hx hb d_P_leaveOutAll_2 rfl (lv_at hl 1 rfl) ?_
      refine lv_bipush (v := 16) hx hb d_P_leaveOutAll_3 (by decide) ?_
      refine lv_icmp_ge (tgt := 32) hx hb d_P_leaveOutAll_5 (by decide) (fun c1 => ?_) (fun c1 => ?_)
      · exact W.vret hx hb hr (fun t h9 _ => ⟨⟨(), rfl, trivial, by show va_P _ _ _ t.heap; rw [h9]; exact (by rw [← hv]; simp only [la]; exact hP)⟩, hS.F h9⟩) hS.2.2 d_P_leaveOutAll_32
      · exact absurd (show (16 : Int32) ≤ nI j from by rw [show j = 16 by omega]; decide) c1
    | succ kk ih =>
      intro j x H locs ls hj hv hP hD hS hl
      refine lv_iload_n hx hb d_P_leaveOutAll_2 rfl (lv_at hl 1 rfl) ?_
      refine lv_bipush (v := 16) hx hb d_P_leaveOutAll_3 (by decide) ?_
      refine lv_icmp_ge (tgt := 32) hx hb d_P_leaveOutAll_5 (by decide) (fun c2 => ?_) (fun c2 => ?_)
      · exact absurd c2 (nI_ge (a := j) (b := 16) (by omega) (by decide))
      · refine lv_aload_n hx hb d_P_leaveOutAll_8 rfl (lv_at hl 0 rfl) ?_
        refine va_get (D := G.1) (ci := 0) (v := .int x) (C := R_P) (T := F_P) (N := 6) hx hb ht in_P hown hK hP 0 rfl rfl 5 (by decide) (ht _ kf_P_13) (fun _ h9 => h9) rfl d_P_leaveOutAll_9 ?_
        refine lv_istore_n (lv' := [(2, .int x), (0, .ref a), (1, .int (nI j))]) hx hb d_P_leaveOutAll_12 rfl hl (by decide) rfl (fun ls hl => ?_)
        refine lv_aload_n hx hb d_P_leaveOutAll_13 rfl (lv_at hl 1 rfl) ?_
        refine mu_v (wr := []) (wn := [(a, .inr (0, [.ref d1, .ref v1, .ref o1, .ref t1, .long ns, .int (gt g h q x 16)])), (d1, .inr (1, [.ref d2, .long sd, .int k, .int (nI n), .int fb])), (d2, .inl (G.2.1, 16, .inr (.inl f))), (v1, .inr (2, [.ref v2, .ref v3, .int (nI q)])), (v2, .inl (G.2.2.1, 100, .inl g)), (v3, .inl (G.2.2.2, 100, .inl h))]) (ru_V (b := a) (As := []) (rest := []) ⟨hx, hb, hml, hown, ht⟩ hKN (c_P_goThrough l G _ a d1 d2 v1 v2 v3 o1 t1 sd k n fb f g h q ns x (hP.sub [0, 1, 2, 3, 4, 5] rfl) ((hD.sub (ws' := [(a, .inr (0, [.ref d1, .ref v1, .ref o1, .ref t1, .long ns, .int x])), (d1, .inr (1, [.ref d2, .long sd, .int k, .int (nI n), .int fb])), (d2, .inl (G.2.1, 16, .inr (.inl f))), (v1, .inr (2, [.ref v2, .ref v3, .int (nI q)])), (v2, .inl (G.2.2.1, 100, .inl g)), (v3, .inl (G.2.2.2, 100, .inl h))]) [0, 1, 2, 3, 4, 5] (by decide) rfl).weaken (fun _ _ _ _ => trivial)) hn hq) kc_P_108 ⟨rfl, rfl⟩ ⟨Nat.le_of_ble_eq_true rfl, Nat.le_of_ble_eq_true rfl⟩ (va_recv hK hP (ci := 0) (q0 := 0) rfl rfl) rfl hl.1 rfl (Nat.le_of_ble_eq_true rfl) d_P_leaveOutAll_14 ⟨Nat.le_of_ble_eq_true rfl, Nat.le_of_ble_eq_true rfl⟩) hP hD hS hA [0, 1, 2, 3, 4, 5] [] [0, 1, 2, 3, 4, 5] rfl rfl ⟨by decide, by decide, by decide⟩ (by decide) rfl rfl (fun H locs hP hD hS => ?_)
        refine lv_aload_n hx hb d_P_leaveOutAll_17 rfl (lv_at hl 1 rfl) ?_
        refine va_get (D := G.1) (ci := 0) (v := .int (gt g h q x 16)) (C := R_P) (T := F_P) (N := 6) hx hb ht in_P hown hK hP 0 rfl rfl 5 (by decide) (ht _ kf_P_13) (fun _ h9 => h9) rfl d_P_leaveOutAll_18 ?_
        refine lv_iload_n hx hb d_P_leaveOutAll_21 rfl (lv_at hl 0 rfl) ?_
        refine lv_icmp_ne (tgt := 26) hx hb d_P_leaveOutAll_22 (by decide) (fun c3 => ?_) (fun c3 => ?_)
        · refine lv_iinc (v := nI (j + 1)) (lv' := [(1, .int (nI (j + 1))), (2, .int x), (0, .ref a)]) hx hb d_P_leaveOutAll_26 hl (k := 2) rfl (nI_1 j) (by decide) rfl (fun ls hl => ?_)
          refine lv_goto (tgt := 2) hx hb d_P_leaveOutAll_29 (by decide) ?_
          exact ih (j + 1) (gt g h q x 16) H locs ls (by omega) (by rw [← hv]; simp only [la]; rw [if_neg c3]) hP hD hS (lv_sub hl [2, 0] rfl)
        · exact W.vret hx hb hr (fun t h9 _ => ⟨⟨(), rfl, trivial, by show va_P _ _ _ t.heap; rw [h9]; exact (by rw [← hv]; simp only [la]; rw [if_pos c3]; rw [c3] at hP; exact hP)⟩, hS.F h9⟩) hS.2.2 d_P_leaveOutAll_25
  exact loop 16 0 lb _ _ ls (by omega) rfl hP hD hS (by exact lv_sub hl [1, 0] rfl)
