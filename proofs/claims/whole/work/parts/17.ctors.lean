set_option maxHeartbeats 4000000 in
set_option maxRecDepth 100000 in
theorem c_D_init (l : Launch) (G : GT) (H : Heap) (a : Nat) (hP : va_P G.1 classes [(a, .inr (1, [.null, .long 0, .int 0, .int 0, .int 0]))] H) (hD0 : va_D (fun _ => True) [(a, .inr (1, [.null, .long 0, .int 0, .int 0, .int 0]))]) : Met l y_D_init (Cond.code y_D_init b_D_init 1 none :: TG) ({ frames := 1, cells := 1, slots := 16, locals := 12 }) (PC G H [.ref a]) (QN G (fun z : Nat => [(a, .inr (1, [.ref z, .long 0, .int (-1), .int (nI 0), .int 0])), (z, .inl (G.2.1, 16, .inr (.inl (fun _ => 0))))]) (va_A [(a, .inr (1, [.null, .long 0, .int 0, .int 0, .int 0]))] H.size)) 1 16 (va_A [(a, .inr (1, [.null, .long 0, .int 0, .int 0, .int 0]))] H.size) := by
  refine Met.ofW (cc := b_D_init) (maxL := 1) (ret := none) (by decide) rfl ?_
  intro p e s m args below meth c s₁ B hml hv
  obtain ⟨rfl, hH, hKN⟩ := hv
  subst hH
  have hx := B.exec
  have hb := B.bytes
  have hr := B.returns
  have hts := atoms_spec (ws := (Cond.code y_D_init b_D_init 1 none :: TG)) B.pre
  have ht : ∀ w ∈ TG, w.before _ s = true := fun w h => hts w (List.mem_cons_of_mem _ h)
  have hown : s.vm.findClass R_D = some m.cls := findClass_of_methodNamed B.named
  have hlocks := B.notSynchronized
  have hK := hKN.1
  have hl := lv_entry ([.ref a]) (n := 1) (Nat.le_of_ble_eq_true rfl)
  rw [lg_entry_eq]
  generalize (lg_sl ([.ref a]) ++ List.replicate (1 - (lg_sl ([.ref a])).length) Slot.unset).toArray = ls at hl ⊢
  have hl : lv_has ls 1 [(0, .ref a)] := hl
  have hin : meth.name = "<init>" := (name_of_methodNamed B.named B.method).1
  have hD := hD0.self (sz := s.heap.size)
  generalize hAe : va_A [(a, .inr (1, [.null, .long 0, .int 0, .int 0, .int 0]))] s.heap.size = A at hD ⊢
  have hA : ∀ q : Nat, s.heap.size ≤ q → A q := fun q h => by rw [← hAe]; exact Or.inr h
  have hS : va_S A s.heap s.heap [] := va_S.rf
  refine lv_aload_n hx hb d_D_init_0 rfl (lv_at hl 0 rfl) ?_
  refine W.objInit hx hb hown (ht _ km_D_3) (ht _ k_objI) (ht _ k_objC) rfl (by rw [hml]; exact hl.1) rfl d_D_init_1 (Nat.le_of_ble_eq_true rfl) (Nat.le_of_ble_eq_true rfl) ?_
  refine W.eq (g2 := F0 m 4 ls []) rfl ?_
  refine lv_aload_n hx hb d_D_init_4 rfl (lv_at hl 0 rfl) ?_
  refine lv_bipush (v := 16) hx hb d_D_init_5 (by decide) ?_
  refine va_newa (atype := .long) (ty := .long) (N' := 16) (a0 := (16, .inr (.inl (fun _ => 0)))) hx hb (ht _ k_arr_long) rfl hK hP hD hS hA (fun _ => rfl) (by decide) (by decide) (by decide) (Nat.le_of_ble_eq_true rfl) (Nat.le_of_ble_eq_true rfl) d_D_init_7 (fun q7 cA H hK1 hP hD hS => ?_)
  obtain rfl : cA = G.2.1 := arr_one hK1 3 0 rfl rfl (Or.inl rfl)
  have hP : va_P G.1 classes [(a, .inr (1, [.null, .long 0, .int 0, .int 0, .int 0])), (q7, .inl (G.2.1, 16, .inr (.inl (fun _ => 0))))] H := hP
  have hD : va_D A [(a, .inr (1, [.null, .long 0, .int 0, .int 0, .int 0])), (q7, .inl (G.2.1, 16, .inr (.inl (fun _ => 0))))] := hD
  refine va_putF (D := G.1) (ci := 1) (v := .ref q7) (ty := .array .long) (C := R_D) (T := F_D) (N := 5) hx hb ht in_D t_D tk_D n_D hown hK hP hD hS 0 rfl rfl 0 (by decide) (ht _ kf_D_9) (fun _ h9 => h9) rfl hin rfl (by decide +kernel) rfl rfl (Nat.le_of_ble_eq_true rfl) d_D_init_9 (fun H locs hP hD hS => ?_)
  have hP : va_P G.1 classes [(a, .inr (1, [.ref q7, .long 0, .int 0, .int 0, .int 0])), (q7, .inl (G.2.1, 16, .inr (.inl (fun _ => 0))))] H := hP
  have hD : va_D A [(a, .inr (1, [.ref q7, .long 0, .int 0, .int 0, .int 0])), (q7, .inl (G.2.1, 16, .inr (.inl (fun _ => 0))))] := hD
  refine lv_aload_n hx hb d_D_init_12 rfl (lv_at hl 0 rfl) ?_
  refine lv_lconst (v := 0) hx hb d_D_init_13 (by decide) ?_
  refine va_put (D := G.1) (ci := 1) (v := .long 0) (ty := .long) (C := R_D) (T := F_D) (N := 5) hx hb ht in_D t_D tk_D n_D hown hK hP hD hS 0 rfl rfl 1 (by decide) (ht _ kf_D_15) (fun _ h9 => h9) rfl (by decide +kernel) rfl rfl (Nat.le_of_ble_eq_true rfl) d_D_init_14 (fun H locs hP hD hS => ?_)
  have hP : va_P G.1 classes [(a, .inr (1, [.ref q7, .long 0, .int 0, .int 0, .int 0])), (q7, .inl (G.2.1, 16, .inr (.inl (fun _ => 0))))] H := hP
  have hD : va_D A [(a, .inr (1, [.ref q7, .long 0, .int 0, .int 0, .int 0])), (q7, .inl (G.2.1, 16, .inr (.inl (fun _ => 0))))] := hD
  refine lv_aload_n hx hb d_D_init_17 rfl (lv_at hl 0 rfl) ?_
  refine lv_iconst (v := (-1)) hx hb d_D_init_18 (by decide) ?_
  refine va_put (D := G.1) (ci := 1) (v := .int (-1)) (ty := .int) (C := R_D) (T := F_D) (N := 5) hx hb ht in_D t_D tk_D n_D hown hK hP hD hS 0 rfl rfl 2 (by decide) (ht _ kf_D_19) (fun _ h9 => h9) rfl (by decide +kernel) rfl rfl (Nat.le_of_ble_eq_true rfl) d_D_init_19 (fun H locs hP hD hS => ?_)
  have hP : va_P G.1 classes [(a, .inr (1, [.ref q7, .long 0, .int (-1), .int 0, .int 0])), (q7, .inl (G.2.1, 16, .inr (.inl (fun _ => 0))))] H := hP
  have hD : va_D A [(a, .inr (1, [.ref q7, .long 0, .int (-1), .int 0, .int 0])), (q7, .inl (G.2.1, 16, .inr (.inl (fun _ => 0))))] := hD
  refine lv_aload_n hx hb d_D_init_22 rfl (lv_at hl 0 rfl) ?_
  refine lv_iconst (v := 0) hx hb d_D_init_23 (by decide) ?_
  refine va_put (D := G.1) (ci := 1) (v := .int 0) (ty := .int) (C := R_D) (T := F_D) (N := 5) hx hb ht in_D t_D tk_D n_D hown hK hP hD hS 0 rfl rfl 3 (by decide) (ht _ kf_D_23) (fun _ h9 => h9) rfl (by decide +kernel) rfl rfl (Nat.le_of_ble_eq_true rfl) d_D_init_24 (fun H locs hP hD hS => ?_)
  have hP : va_P G.1 classes [(a, .inr (1, [.ref q7, .long 0, .int (-1), .int 0, .int 0])), (q7, .inl (G.2.1, 16, .inr (.inl (fun _ => 0))))] H := hP
  have hD : va_D A [(a, .inr (1, [.ref q7, .long 0, .int (-1), .int 0, .int 0])), (q7, .inl (G.2.1, 16, .inr (.inl (fun _ => 0))))] := hD
  refine lv_aload_n hx hb d_D_init_27 rfl (lv_at hl 0 rfl) ?_
  refine lv_iconst (v := 0) hx hb d_D_init_28 (by decide) ?_
  refine va_put (D := G.1) (ci := 1) (v := .int 0) (ty := .int) (C := R_D) (T := F_D) (N := 5) hx hb ht in_D t_D tk_D n_D hown hK hP hD hS 0 rfl rfl 4 (by decide) (ht _ kf_D_26) (fun _ h9 => h9) rfl (by decide +kernel) rfl rfl (Nat.le_of_ble_eq_true rfl) d_D_init_29 (fun H locs hP hD hS => ?_)
  have hP : va_P G.1 classes [(a, .inr (1, [.ref q7, .long 0, .int (-1), .int 0, .int 0])), (q7, .inl (G.2.1, 16, .inr (.inl (fun _ => 0))))] H := hP
  have hD : va_D A [(a, .inr (1, [.ref q7, .long 0, .int (-1), .int 0, .int 0])), (q7, .inl (G.2.1, 16, .inr (.inl (fun _ => 0))))] := hD
  refine W.widen (k := 1) (n := 16) (Nat.le_of_ble_eq_true rfl) (Nat.le_of_ble_eq_true rfl) ?_
  exact W.vret hx hb hr (fun t h9 _ => ⟨⟨q7, rfl, trivial, by rw [h9]; exact hP.sub [0, 1] rfl, hD.sub [0, 1] (by decide) rfl⟩, hS.F h9⟩) hS.2.2 d_D_init_32
set_option maxHeartbeats 4000000 in
set_option maxRecDepth 100000 in
theorem c_V_init (l : Launch) (G : GT) (H : Heap) (a : Nat) (hP : va_P G.1 classes [(a, .inr (2, [.null, .null, .int 0]))] H) (hD0 : va_D (fun _ => True) [(a, .inr (2, [.null, .null, .int 0]))]) : Met l y_V_init (Cond.code y_V_init b_V_init 1 none :: TG) ({ frames := 1, cells := 2, slots := 200, locals := 12 }) (PC G H [.ref a]) (QN G (fun z : Nat × Nat => [(a, .inr (2, [.ref z.1, .ref z.2, .int (nI 0)])), (z.1, .inl (G.2.2.1, 100, .inl (fun _ => 0))), (z.2, .inl (G.2.2.2, 100, .inl (fun _ => 0)))]) (va_A [(a, .inr (2, [.null, .null, .int 0]))] H.size)) 2 200 (va_A [(a, .inr (2, [.null, .null, .int 0]))] H.size) := by
  refine Met.ofW (cc := b_V_init) (maxL := 1) (ret := none) (by decide) rfl ?_
  intro p e s m args below meth c s₁ B hml hv
  obtain ⟨rfl, hH, hKN⟩ := hv
  subst hH
  have hx := B.exec
  have hb := B.bytes
  have hr := B.returns
  have hts := atoms_spec (ws := (Cond.code y_V_init b_V_init 1 none :: TG)) B.pre
  have ht : ∀ w ∈ TG, w.before _ s = true := fun w h => hts w (List.mem_cons_of_mem _ h)
  have hown : s.vm.findClass R_V = some m.cls := findClass_of_methodNamed B.named
  have hlocks := B.notSynchronized
  have hK := hKN.1
  have hl := lv_entry ([.ref a]) (n := 1) (Nat.le_of_ble_eq_true rfl)
  rw [lg_entry_eq]
  generalize (lg_sl ([.ref a]) ++ List.replicate (1 - (lg_sl ([.ref a])).length) Slot.unset).toArray = ls at hl ⊢
  have hl : lv_has ls 1 [(0, .ref a)] := hl
  have hin : meth.name = "<init>" := (name_of_methodNamed B.named B.method).1
  have hD := hD0.self (sz := s.heap.size)
  generalize hAe : va_A [(a, .inr (2, [.null, .null, .int 0]))] s.heap.size = A at hD ⊢
  have hA : ∀ q : Nat, s.heap.size ≤ q → A q := fun q h => by rw [← hAe]; exact Or.inr h
  have hS : va_S A s.heap s.heap [] := va_S.rf
  refine lv_aload_n hx hb d_V_init_0 rfl (lv_at hl 0 rfl) ?_
  refine W.objInit hx hb hown (ht _ km_V_3) (ht _ k_objI) (ht _ k_objC) rfl (by rw [hml]; exact hl.1) rfl d_V_init_1 (Nat.le_of_ble_eq_true rfl) (Nat.le_of_ble_eq_true rfl) ?_
  refine W.eq (g2 := F0 m 4 ls []) rfl ?_
  refine lv_aload_n hx hb d_V_init_4 rfl (lv_at hl 0 rfl) ?_
  refine lv_bipush (v := 100) hx hb d_V_init_5 (by decide) ?_
  refine va_newa (atype := .int) (ty := .int) (N' := 100) (a0 := (100, .inl (fun _ => 0))) hx hb (ht _ k_arr_int) rfl hK hP hD hS hA (fun _ => rfl) (by decide) (by decide) (by decide) (Nat.le_of_ble_eq_true rfl) (Nat.le_of_ble_eq_true rfl) d_V_init_7 (fun q7 cA H hK1 hP hD hS => ?_)
  obtain rfl : cA = G.2.2.1 := arr_one hK1 3 1 rfl rfl (Or.inr (Or.inl rfl))
  have hP : va_P G.1 classes [(a, .inr (2, [.null, .null, .int 0])), (q7, .inl (G.2.2.1, 100, .inl (fun _ => 0)))] H := hP
  have hD : va_D A [(a, .inr (2, [.null, .null, .int 0])), (q7, .inl (G.2.2.1, 100, .inl (fun _ => 0)))] := hD
  refine va_putF (D := G.1) (ci := 2) (v := .ref q7) (ty := .array .int) (C := R_V) (T := F_V) (N := 3) hx hb ht in_V t_V tk_V n_V hown hK hP hD hS 0 rfl rfl 0 (by decide) (ht _ kf_V_9) (fun _ h9 => h9) rfl hin rfl (by decide +kernel) rfl rfl (Nat.le_of_ble_eq_true rfl) d_V_init_9 (fun H locs hP hD hS => ?_)
  have hP : va_P G.1 classes [(a, .inr (2, [.ref q7, .null, .int 0])), (q7, .inl (G.2.2.1, 100, .inl (fun _ => 0)))] H := hP
  have hD : va_D A [(a, .inr (2, [.ref q7, .null, .int 0])), (q7, .inl (G.2.2.1, 100, .inl (fun _ => 0)))] := hD
  refine lv_aload_n hx hb d_V_init_12 rfl (lv_at hl 0 rfl) ?_
  refine lv_bipush (v := 100) hx hb d_V_init_13 (by decide) ?_
  refine va_newa (atype := .boolean) (ty := .boolean) (N' := 100) (a0 := (100, .inl (fun _ => 0))) hx hb (ht _ k_arr_boolean) rfl hK hP hD hS hA (fun _ => rfl) (by decide) (by decide) (by decide) (Nat.le_of_ble_eq_true rfl) (Nat.le_of_ble_eq_true rfl) d_V_init_15 (fun q15 cA H hK1 hP hD hS => ?_)
  obtain rfl : cA = G.2.2.2 := arr_one hK1 3 2 rfl rfl (Or.inr (Or.inr rfl))
  have hP : va_P G.1 classes [(a, .inr (2, [.ref q7, .null, .int 0])), (q7, .inl (G.2.2.1, 100, .inl (fun _ => 0))), (q15, .inl (G.2.2.2, 100, .inl (fun _ => 0)))] H := hP
  have hD : va_D A [(a, .inr (2, [.ref q7, .null, .int 0])), (q7, .inl (G.2.2.1, 100, .inl (fun _ => 0))), (q15, .inl (G.2.2.2, 100, .inl (fun _ => 0)))] := hD
  refine va_putF (D := G.1) (ci := 2) (v := .ref q15) (ty := .array .boolean) (C := R_V) (T := F_V) (N := 3) hx hb ht in_V t_V tk_V n_V hown hK hP hD hS 0 rfl rfl 1 (by decide) (ht _ kf_V_15) (fun _ h9 => h9) rfl hin rfl (by decide +kernel) rfl rfl (Nat.le_of_ble_eq_true rfl) d_V_init_17 (fun H locs hP hD hS => ?_)
  have hP : va_P G.1 classes [(a, .inr (2, [.ref q7, .ref q15, .int 0])), (q7, .inl (G.2.2.1, 100, .inl (fun _ => 0))), (q15, .inl (G.2.2.2, 100, .inl (fun _ => 0)))] H := hP
  have hD : va_D A [(a, .inr (2, [.ref q7, .ref q15, .int 0])), (q7, .inl (G.2.2.1, 100, .inl (fun _ => 0))), (q15, .inl (G.2.2.2, 100, .inl (fun _ => 0)))] := hD
  refine lv_aload_n hx hb d_V_init_20 rfl (lv_at hl 0 rfl) ?_
  refine lv_iconst (v := 0) hx hb d_V_init_21 (by decide) ?_
  refine va_put (D := G.1) (ci := 2) (v := .int 0) (ty := .int) (C := R_V) (T := F_V) (N := 3) hx hb ht in_V t_V tk_V n_V hown hK hP hD hS 0 rfl rfl 2 (by decide) (ht _ kf_V_19) (fun _ h9 => h9) rfl (by decide +kernel) rfl rfl (Nat.le_of_ble_eq_true rfl) d_V_init_22 (fun H locs hP hD hS => ?_)
  have hP : va_P G.1 classes [(a, .inr (2, [.ref q7, .ref q15, .int 0])), (q7, .inl (G.2.2.1, 100, .inl (fun _ => 0))), (q15, .inl (G.2.2.2, 100, .inl (fun _ => 0)))] H := hP
  have hD : va_D A [(a, .inr (2, [.ref q7, .ref q15, .int 0])), (q7, .inl (G.2.2.1, 100, .inl (fun _ => 0))), (q15, .inl (G.2.2.2, 100, .inl (fun _ => 0)))] := hD
  refine W.widen (k := 2) (n := 200) (Nat.le_of_ble_eq_true rfl) (Nat.le_of_ble_eq_true rfl) ?_
  exact W.vret hx hb hr (fun t h9 _ => ⟨⟨(q7, q15), rfl, trivial, by rw [h9]; exact hP.sub [0, 1, 2] rfl, hD.sub [0, 1, 2] (by decide) rfl⟩, hS.F h9⟩) hS.2.2 d_V_init_25
set_option maxHeartbeats 4000000 in
set_option maxRecDepth 100000 in
theorem c_P_init (l : Launch) (G : GT) (H : Heap) (a : Nat) (p1 : Int32) (hP : va_P G.1 classes [(a, .inr (0, [.null, .null, .null, .null, .long 0, .int 0]))] H) (hD0 : va_D (fun _ => True) [(a, .inr (0, [.null, .null, .null, .null, .long 0, .int 0]))]) : Met l y_P_init (Cond.code y_P_init b_P_init 2 none :: TG) ({ frames := 2, cells := 9, slots := 266, locals := 32 }) (PC G H [.ref a, .int p1]) (QN G (fun z : Nat × Nat × Nat × Nat × Nat × Nat × Nat × Nat × Nat => [(a, .inr (0, [.ref z.1, .ref z.2.2.1, .ref z.2.2.2.2.2.1, .ref z.2.2.2.2.2.2.2.1, .long p1.toInt64, .int 0])), (z.1, .inr (1, [.ref z.2.1, .long 0, .int (-1), .int (nI 0), .int 0])), (z.2.1, .inl (G.2.1, 16, .inr (.inl (fun _ => 0)))), (z.2.2.1, .inr (2, [.ref z.2.2.2.1, .ref z.2.2.2.2.1, .int (nI 0)])), (z.2.2.2.1, .inl (G.2.2.1, 100, .inl (fun _ => 0))), (z.2.2.2.2.1, .inl (G.2.2.2, 100, .inl (fun _ => 0))), (z.2.2.2.2.2.1, .inr (1, [.ref z.2.2.2.2.2.2.1, .long 0, .int (-1), .int (nI 0), .int 0])), (z.2.2.2.2.2.2.1, .inl (G.2.1, 16, .inr (.inl (fun _ => 0)))), (z.2.2.2.2.2.2.2.1, .inr (1, [.ref z.2.2.2.2.2.2.2.2, .long 0, .int (-1), .int (nI 0), .int 0])), (z.2.2.2.2.2.2.2.2, .inl (G.2.1, 16, .inr (.inl (fun _ => 0))))]) (va_A [(a, .inr (0, [.null, .null, .null, .null, .long 0, .int 0]))] H.size)) 9 266 (va_A [(a, .inr (0, [.null, .null, .null, .null, .long 0, .int 0]))] H.size) := by
  refine Met.ofW (cc := b_P_init) (maxL := 2) (ret := none) (by decide) rfl ?_
  intro p e s m args below meth c s₁ B hml hv
  obtain ⟨rfl, hH, hKN⟩ := hv
  subst hH
  have hx := B.exec
  have hb := B.bytes
  have hr := B.returns
  have hts := atoms_spec (ws := (Cond.code y_P_init b_P_init 2 none :: TG)) B.pre
  have ht : ∀ w ∈ TG, w.before _ s = true := fun w h => hts w (List.mem_cons_of_mem _ h)
  have hown : s.vm.findClass R_P = some m.cls := findClass_of_methodNamed B.named
  have hlocks := B.notSynchronized
  have hK := hKN.1
  have hl := lv_entry ([.ref a, .int p1]) (n := 2) (Nat.le_of_ble_eq_true rfl)
  rw [lg_entry_eq]
  generalize (lg_sl ([.ref a, .int p1]) ++ List.replicate (2 - (lg_sl ([.ref a, .int p1])).length) Slot.unset).toArray = ls at hl ⊢
  have hl : lv_has ls 2 [(0, .ref a), (1, .int p1)] := hl
  have hin : meth.name = "<init>" := (name_of_methodNamed B.named B.method).1
  have hD := hD0.self (sz := s.heap.size)
  generalize hAe : va_A [(a, .inr (0, [.null, .null, .null, .null, .long 0, .int 0]))] s.heap.size = A at hD ⊢
  have hA : ∀ q : Nat, s.heap.size ≤ q → A q := fun q h => by rw [← hAe]; exact Or.inr h
  have hS : va_S A s.heap s.heap [] := va_S.rf
  refine lv_aload_n hx hb d_P_init_0 rfl (lv_at hl 0 rfl) ?_
  refine W.objInit hx hb hown (ht _ km_P_1) (ht _ k_objI) (ht _ k_objC) rfl (by rw [hml]; exact hl.1) rfl d_P_init_1 (Nat.le_of_ble_eq_true rfl) (Nat.le_of_ble_eq_true rfl) ?_
  refine W.eq (g2 := F0 m 4 ls []) rfl ?_
  refine lv_aload_n hx hb d_P_init_4 rfl (lv_at hl 0 rfl) ?_
  refine lv_iload_n hx hb d_P_init_5 rfl (lv_at hl 1 rfl) ?_
  refine lv_i2l hx hb d_P_init_6 rfl ?_
  refine va_put (D := G.1) (ci := 0) (v := .long (p1.toInt64)) (ty := .long) (C := R_P) (T := F_P) (N := 6) hx hb ht in_P t_P tk_P n_P hown hK hP hD hS 0 rfl rfl 4 (by decide) (ht _ kf_P_7) (fun _ h9 => h9) rfl (by decide +kernel) rfl rfl (Nat.le_of_ble_eq_true rfl) d_P_init_7 (fun H locs hP hD hS => ?_)
  have hP : va_P G.1 classes [(a, .inr (0, [.null, .null, .null, .null, .long (p1.toInt64), .int 0]))] H := hP
  have hD : va_D A [(a, .inr (0, [.null, .null, .null, .null, .long (p1.toInt64), .int 0]))] := hD
  refine lv_aload_n hx hb d_P_init_10 rfl (lv_at hl 0 rfl) ?_
  refine lv_iconst (v := 0) hx hb d_P_init_11 (by decide) ?_
  refine va_put (D := G.1) (ci := 0) (v := .int 0) (ty := .int) (C := R_P) (T := F_P) (N := 6) hx hb ht in_P t_P tk_P n_P hown hK hP hD hS 0 rfl rfl 5 (by decide) (ht _ kf_P_13) (fun _ h9 => h9) rfl (by decide +kernel) rfl rfl (Nat.le_of_ble_eq_true rfl) d_P_init_12 (fun H locs hP hD hS => ?_)
  have hP : va_P G.1 classes [(a, .inr (0, [.null, .null, .null, .null, .long (p1.toInt64), .int 0]))] H := hP
  have hD : va_D A [(a, .inr (0, [.null, .null, .null, .null, .long (p1.toInt64), .int 0]))] := hD
  refine lv_aload_n hx hb d_P_init_15 rfl (lv_at hl 0 rfl) ?_
  refine va_new (ci := 1) (fs := [.null, .long 0, .int 0, .int 0, .int 0]) (C := R_D) (T := F_D) (N := 5) hx hb ht in_D t_D tk_D hown (ht _ kw_P_17) (ht _ ki_D) (ht _ kz_D) hK hP hD hS hA rfl (fun j hj => by rcases (show j = 0 ∨ j = 1 ∨ j = 2 ∨ j = 3 ∨ j = 4 by omega) with rfl | rfl | rfl | rfl | rfl <;> rfl) (Nat.le_of_ble_eq_true rfl) (Nat.le_of_ble_eq_true rfl) d_P_init_16 (fun o16 H hP hD hS => ?_)
  have hP : va_P G.1 classes [(a, .inr (0, [.null, .null, .null, .null, .long (p1.toInt64), .int 0])), (o16, .inr (1, [.null, .long 0, .int 0, .int 0, .int 0]))] H := hP
  have hD : va_D A [(a, .inr (0, [.null, .null, .null, .null, .long (p1.toInt64), .int 0])), (o16, .inr (1, [.null, .long 0, .int 0, .int 0, .int 0]))] := hD
  refine lv_dup hx hb d_P_init_19 rfl ?_
  refine mu_n (wr := [(a, .inr (0, [.null, .null, .null, .null, .long (p1.toInt64), .int 0]))]) (ru_IN (b := o16) (As := []) (rest := [.ref o16, .ref a]) ⟨hx, hb, hml, hown, ht⟩ hKN (c_D_init l G _ o16 (hP.sub [1] rfl) ((hD.sub (ws' := [(o16, .inr (1, [.null, .long 0, .int 0, .int 0, .int 0]))]) [1] (by decide) rfl).weaken (fun _ _ _ _ => trivial))) kc_P_19 ⟨rfl, rfl⟩ ⟨Nat.le_of_ble_eq_true rfl, Nat.le_of_ble_eq_true rfl⟩ rfl hl.1 rfl (Nat.le_of_ble_eq_true rfl) d_P_init_20 ⟨Nat.le_of_ble_eq_true rfl, Nat.le_of_ble_eq_true rfl⟩) hP hD hS hA [1] [0] rfl rfl (by decide) (by decide) (fun z20 H locs hP hD hS => ?_)
  obtain ⟨q20, e20⟩ : ∃ z, z = z20 := ⟨_, rfl⟩
  rw [← e20] at hP hD
  have hP : va_P G.1 classes [(a, .inr (0, [.null, .null, .null, .null, .long (p1.toInt64), .int 0])), (o16, .inr (1, [.ref q20, .long 0, .int (-1), .int (nI 0), .int 0])), (q20, .inl (G.2.1, 16, .inr (.inl (fun _ => 0))))] H := hP
  have hD : va_D A [(a, .inr (0, [.null, .null, .null, .null, .long (p1.toInt64), .int 0])), (o16, .inr (1, [.ref q20, .long 0, .int (-1), .int (nI 0), .int 0])), (q20, .inl (G.2.1, 16, .inr (.inl (fun _ => 0))))] := hD
  refine va_putF (D := G.1) (ci := 0) (v := .ref o16) (ty := .object "PostDrawer$Drawing") (C := R_P) (T := F_P) (N := 6) hx hb ht in_P t_P tk_P n_P hown hK hP hD hS 0 rfl rfl 0 (by decide) (ht _ kf_P_20) (fun _ h9 => h9) rfl hin rfl (by decide +kernel) rfl rfl (Nat.le_of_ble_eq_true rfl) d_P_init_23 (fun H locs hP hD hS => ?_)
  have hP : va_P G.1 classes [(a, .inr (0, [.ref o16, .null, .null, .null, .long (p1.toInt64), .int 0])), (o16, .inr (1, [.ref q20, .long 0, .int (-1), .int (nI 0), .int 0])), (q20, .inl (G.2.1, 16, .inr (.inl (fun _ => 0))))] H := hP
  have hD : va_D A [(a, .inr (0, [.ref o16, .null, .null, .null, .long (p1.toInt64), .int 0])), (o16, .inr (1, [.ref q20, .long 0, .int (-1), .int (nI 0), .int 0])), (q20, .inl (G.2.1, 16, .inr (.inl (fun _ => 0))))] := hD
  refine lv_aload_n hx hb d_P_init_26 rfl (lv_at hl 0 rfl) ?_
  refine va_new (ci := 1) (fs := [.null, .long 0, .int 0, .int 0, .int 0]) (C := R_D) (T := F_D) (N := 5) hx hb ht in_D t_D tk_D hown (ht _ kw_P_17) (ht _ ki_D) (ht _ kz_D) hK hP hD hS hA rfl (fun j hj => by rcases (show j = 0 ∨ j = 1 ∨ j = 2 ∨ j = 3 ∨ j = 4 by omega) with rfl | rfl | rfl | rfl | rfl <;> rfl) (Nat.le_of_ble_eq_true rfl) (Nat.le_of_ble_eq_true rfl) d_P_init_27 (fun o27 H hP hD hS => ?_)
  have hP : va_P G.1 classes [(a, .inr (0, [.ref o16, .null, .null, .null, .long (p1.toInt64), .int 0])), (o16, .inr (1, [.ref q20, .long 0, .int (-1), .int (nI 0), .int 0])), (q20, .inl (G.2.1, 16, .inr (.inl (fun _ => 0)))), (o27, .inr (1, [.null, .long 0, .int 0, .int 0, .int 0]))] H := hP
  have hD : va_D A [(a, .inr (0, [.ref o16, .null, .null, .null, .long (p1.toInt64), .int 0])), (o16, .inr (1, [.ref q20, .long 0, .int (-1), .int (nI 0), .int 0])), (q20, .inl (G.2.1, 16, .inr (.inl (fun _ => 0)))), (o27, .inr (1, [.null, .long 0, .int 0, .int 0, .int 0]))] := hD
  refine lv_dup hx hb d_P_init_30 rfl ?_
  refine mu_n (wr := [(a, .inr (0, [.ref o16, .null, .null, .null, .long (p1.toInt64), .int 0])), (o16, .inr (1, [.ref q20, .long 0, .int (-1), .int (nI 0), .int 0])), (q20, .inl (G.2.1, 16, .inr (.inl (fun _ => 0))))]) (ru_IN (b := o27) (As := []) (rest := [.ref o27, .ref a]) ⟨hx, hb, hml, hown, ht⟩ hKN (c_D_init l G _ o27 (hP.sub [3] rfl) ((hD.sub (ws' := [(o27, .inr (1, [.null, .long 0, .int 0, .int 0, .int 0]))]) [3] (by decide) rfl).weaken (fun _ _ _ _ => trivial))) kc_P_19 ⟨rfl, rfl⟩ ⟨Nat.le_of_ble_eq_true rfl, Nat.le_of_ble_eq_true rfl⟩ rfl hl.1 rfl (Nat.le_of_ble_eq_true rfl) d_P_init_31 ⟨Nat.le_of_ble_eq_true rfl, Nat.le_of_ble_eq_true rfl⟩) hP hD hS hA [3] [0, 1, 2] rfl rfl (by decide) (by decide) (fun z31 H locs hP hD hS => ?_)
  obtain ⟨q31, e31⟩ : ∃ z, z = z31 := ⟨_, rfl⟩
  rw [← e31] at hP hD
  have hP : va_P G.1 classes [(a, .inr (0, [.ref o16, .null, .null, .null, .long (p1.toInt64), .int 0])), (o16, .inr (1, [.ref q20, .long 0, .int (-1), .int (nI 0), .int 0])), (q20, .inl (G.2.1, 16, .inr (.inl (fun _ => 0)))), (o27, .inr (1, [.ref q31, .long 0, .int (-1), .int (nI 0), .int 0])), (q31, .inl (G.2.1, 16, .inr (.inl (fun _ => 0))))] H := hP
  have hD : va_D A [(a, .inr (0, [.ref o16, .null, .null, .null, .long (p1.toInt64), .int 0])), (o16, .inr (1, [.ref q20, .long 0, .int (-1), .int (nI 0), .int 0])), (q20, .inl (G.2.1, 16, .inr (.inl (fun _ => 0)))), (o27, .inr (1, [.ref q31, .long 0, .int (-1), .int (nI 0), .int 0])), (q31, .inl (G.2.1, 16, .inr (.inl (fun _ => 0))))] := hD
  refine va_putF (D := G.1) (ci := 0) (v := .ref o27) (ty := .object "PostDrawer$Drawing") (C := R_P) (T := F_P) (N := 6) hx hb ht in_P t_P tk_P n_P hown hK hP hD hS 0 rfl rfl 2 (by decide) (ht _ kf_P_24) (fun _ h9 => h9) rfl hin rfl (by decide +kernel) rfl rfl (Nat.le_of_ble_eq_true rfl) d_P_init_34 (fun H locs hP hD hS => ?_)
  have hP : va_P G.1 classes [(a, .inr (0, [.ref o16, .null, .ref o27, .null, .long (p1.toInt64), .int 0])), (o16, .inr (1, [.ref q20, .long 0, .int (-1), .int (nI 0), .int 0])), (q20, .inl (G.2.1, 16, .inr (.inl (fun _ => 0)))), (o27, .inr (1, [.ref q31, .long 0, .int (-1), .int (nI 0), .int 0])), (q31, .inl (G.2.1, 16, .inr (.inl (fun _ => 0))))] H := hP
  have hD : va_D A [(a, .inr (0, [.ref o16, .null, .ref o27, .null, .long (p1.toInt64), .int 0])), (o16, .inr (1, [.ref q20, .long 0, .int (-1), .int (nI 0), .int 0])), (q20, .inl (G.2.1, 16, .inr (.inl (fun _ => 0)))), (o27, .inr (1, [.ref q31, .long 0, .int (-1), .int (nI 0), .int 0])), (q31, .inl (G.2.1, 16, .inr (.inl (fun _ => 0))))] := hD
  refine lv_aload_n hx hb d_P_init_37 rfl (lv_at hl 0 rfl) ?_
  refine va_new (ci := 1) (fs := [.null, .long 0, .int 0, .int 0, .int 0]) (C := R_D) (T := F_D) (N := 5) hx hb ht in_D t_D tk_D hown (ht _ kw_P_17) (ht _ ki_D) (ht _ kz_D) hK hP hD hS hA rfl (fun j hj => by rcases (show j = 0 ∨ j = 1 ∨ j = 2 ∨ j = 3 ∨ j = 4 by omega) with rfl | rfl | rfl | rfl | rfl <;> rfl) (Nat.le_of_ble_eq_true rfl) (Nat.le_of_ble_eq_true rfl) d_P_init_38 (fun o38 H hP hD hS => ?_)
  have hP : va_P G.1 classes [(a, .inr (0, [.ref o16, .null, .ref o27, .null, .long (p1.toInt64), .int 0])), (o16, .inr (1, [.ref q20, .long 0, .int (-1), .int (nI 0), .int 0])), (q20, .inl (G.2.1, 16, .inr (.inl (fun _ => 0)))), (o27, .inr (1, [.ref q31, .long 0, .int (-1), .int (nI 0), .int 0])), (q31, .inl (G.2.1, 16, .inr (.inl (fun _ => 0)))), (o38, .inr (1, [.null, .long 0, .int 0, .int 0, .int 0]))] H := hP
  have hD : va_D A [(a, .inr (0, [.ref o16, .null, .ref o27, .null, .long (p1.toInt64), .int 0])), (o16, .inr (1, [.ref q20, .long 0, .int (-1), .int (nI 0), .int 0])), (q20, .inl (G.2.1, 16, .inr (.inl (fun _ => 0)))), (o27, .inr (1, [.ref q31, .long 0, .int (-1), .int (nI 0), .int 0])), (q31, .inl (G.2.1, 16, .inr (.inl (fun _ => 0)))), (o38, .inr (1, [.null, .long 0, .int 0, .int 0, .int 0]))] := hD
  refine lv_dup hx hb d_P_init_41 rfl ?_
  refine mu_n (wr := [(a, .inr (0, [.ref o16, .null, .ref o27, .null, .long (p1.toInt64), .int 0])), (o16, .inr (1, [.ref q20, .long 0, .int (-1), .int (nI 0), .int 0])), (q20, .inl (G.2.1, 16, .inr (.inl (fun _ => 0)))), (o27, .inr (1, [.ref q31, .long 0, .int (-1), .int (nI 0), .int 0])), (q31, .inl (G.2.1, 16, .inr (.inl (fun _ => 0))))]) (ru_IN (b := o38) (As := []) (rest := [.ref o38, .ref a]) ⟨hx, hb, hml, hown, ht⟩ hKN (c_D_init l G _ o38 (hP.sub [5] rfl) ((hD.sub (ws' := [(o38, .inr (1, [.null, .long 0, .int 0, .int 0, .int 0]))]) [5] (by decide) rfl).weaken (fun _ _ _ _ => trivial))) kc_P_19 ⟨rfl, rfl⟩ ⟨Nat.le_of_ble_eq_true rfl, Nat.le_of_ble_eq_true rfl⟩ rfl hl.1 rfl (Nat.le_of_ble_eq_true rfl) d_P_init_42 ⟨Nat.le_of_ble_eq_true rfl, Nat.le_of_ble_eq_true rfl⟩) hP hD hS hA [5] [0, 1, 2, 3, 4] rfl rfl (by decide) (by decide) (fun z42 H locs hP hD hS => ?_)
  obtain ⟨q42, e42⟩ : ∃ z, z = z42 := ⟨_, rfl⟩
  rw [← e42] at hP hD
  have hP : va_P G.1 classes [(a, .inr (0, [.ref o16, .null, .ref o27, .null, .long (p1.toInt64), .int 0])), (o16, .inr (1, [.ref q20, .long 0, .int (-1), .int (nI 0), .int 0])), (q20, .inl (G.2.1, 16, .inr (.inl (fun _ => 0)))), (o27, .inr (1, [.ref q31, .long 0, .int (-1), .int (nI 0), .int 0])), (q31, .inl (G.2.1, 16, .inr (.inl (fun _ => 0)))), (o38, .inr (1, [.ref q42, .long 0, .int (-1), .int (nI 0), .int 0])), (q42, .inl (G.2.1, 16, .inr (.inl (fun _ => 0))))] H := hP
  have hD : va_D A [(a, .inr (0, [.ref o16, .null, .ref o27, .null, .long (p1.toInt64), .int 0])), (o16, .inr (1, [.ref q20, .long 0, .int (-1), .int (nI 0), .int 0])), (q20, .inl (G.2.1, 16, .inr (.inl (fun _ => 0)))), (o27, .inr (1, [.ref q31, .long 0, .int (-1), .int (nI 0), .int 0])), (q31, .inl (G.2.1, 16, .inr (.inl (fun _ => 0)))), (o38, .inr (1, [.ref q42, .long 0, .int (-1), .int (nI 0), .int 0])), (q42, .inl (G.2.1, 16, .inr (.inl (fun _ => 0))))] := hD
  refine va_putF (D := G.1) (ci := 0) (v := .ref o38) (ty := .object "PostDrawer$Drawing") (C := R_P) (T := F_P) (N := 6) hx hb ht in_P t_P tk_P n_P hown hK hP hD hS 0 rfl rfl 3 (by decide) (ht _ kf_P_27) (fun _ h9 => h9) rfl hin rfl (by decide +kernel) rfl rfl (Nat.le_of_ble_eq_true rfl) d_P_init_45 (fun H locs hP hD hS => ?_)
  have hP : va_P G.1 classes [(a, .inr (0, [.ref o16, .null, .ref o27, .ref o38, .long (p1.toInt64), .int 0])), (o16, .inr (1, [.ref q20, .long 0, .int (-1), .int (nI 0), .int 0])), (q20, .inl (G.2.1, 16, .inr (.inl (fun _ => 0)))), (o27, .inr (1, [.ref q31, .long 0, .int (-1), .int (nI 0), .int 0])), (q31, .inl (G.2.1, 16, .inr (.inl (fun _ => 0)))), (o38, .inr (1, [.ref q42, .long 0, .int (-1), .int (nI 0), .int 0])), (q42, .inl (G.2.1, 16, .inr (.inl (fun _ => 0))))] H := hP
  have hD : va_D A [(a, .inr (0, [.ref o16, .null, .ref o27, .ref o38, .long (p1.toInt64), .int 0])), (o16, .inr (1, [.ref q20, .long 0, .int (-1), .int (nI 0), .int 0])), (q20, .inl (G.2.1, 16, .inr (.inl (fun _ => 0)))), (o27, .inr (1, [.ref q31, .long 0, .int (-1), .int (nI 0), .int 0])), (q31, .inl (G.2.1, 16, .inr (.inl (fun _ => 0)))), (o38, .inr (1, [.ref q42, .long 0, .int (-1), .int (nI 0), .int 0])), (q42, .inl (G.2.1, 16, .inr (.inl (fun _ => 0))))] := hD
  refine lv_aload_n hx hb d_P_init_48 rfl (lv_at hl 0 rfl) ?_
  refine va_new (ci := 2) (fs := [.null, .null, .int 0]) (C := R_V) (T := F_V) (N := 3) hx hb ht in_V t_V tk_V hown (ht _ kw_P_30) (ht _ ki_V) (ht _ kz_V) hK hP hD hS hA rfl (fun j hj => by rcases (show j = 0 ∨ j = 1 ∨ j = 2 by omega) with rfl | rfl | rfl <;> rfl) (Nat.le_of_ble_eq_true rfl) (Nat.le_of_ble_eq_true rfl) d_P_init_49 (fun o49 H hP hD hS => ?_)
  have hP : va_P G.1 classes [(a, .inr (0, [.ref o16, .null, .ref o27, .ref o38, .long (p1.toInt64), .int 0])), (o16, .inr (1, [.ref q20, .long 0, .int (-1), .int (nI 0), .int 0])), (q20, .inl (G.2.1, 16, .inr (.inl (fun _ => 0)))), (o27, .inr (1, [.ref q31, .long 0, .int (-1), .int (nI 0), .int 0])), (q31, .inl (G.2.1, 16, .inr (.inl (fun _ => 0)))), (o38, .inr (1, [.ref q42, .long 0, .int (-1), .int (nI 0), .int 0])), (q42, .inl (G.2.1, 16, .inr (.inl (fun _ => 0)))), (o49, .inr (2, [.null, .null, .int 0]))] H := hP
  have hD : va_D A [(a, .inr (0, [.ref o16, .null, .ref o27, .ref o38, .long (p1.toInt64), .int 0])), (o16, .inr (1, [.ref q20, .long 0, .int (-1), .int (nI 0), .int 0])), (q20, .inl (G.2.1, 16, .inr (.inl (fun _ => 0)))), (o27, .inr (1, [.ref q31, .long 0, .int (-1), .int (nI 0), .int 0])), (q31, .inl (G.2.1, 16, .inr (.inl (fun _ => 0)))), (o38, .inr (1, [.ref q42, .long 0, .int (-1), .int (nI 0), .int 0])), (q42, .inl (G.2.1, 16, .inr (.inl (fun _ => 0)))), (o49, .inr (2, [.null, .null, .int 0]))] := hD
  refine lv_dup hx hb d_P_init_52 rfl ?_
  refine mu_n (wr := [(a, .inr (0, [.ref o16, .null, .ref o27, .ref o38, .long (p1.toInt64), .int 0])), (o16, .inr (1, [.ref q20, .long 0, .int (-1), .int (nI 0), .int 0])), (q20, .inl (G.2.1, 16, .inr (.inl (fun _ => 0)))), (o27, .inr (1, [.ref q31, .long 0, .int (-1), .int (nI 0), .int 0])), (q31, .inl (G.2.1, 16, .inr (.inl (fun _ => 0)))), (o38, .inr (1, [.ref q42, .long 0, .int (-1), .int (nI 0), .int 0])), (q42, .inl (G.2.1, 16, .inr (.inl (fun _ => 0))))]) (ru_IN (b := o49) (As := []) (rest := [.ref o49, .ref a]) ⟨hx, hb, hml, hown, ht⟩ hKN (c_V_init l G _ o49 (hP.sub [7] rfl) ((hD.sub (ws' := [(o49, .inr (2, [.null, .null, .int 0]))]) [7] (by decide) rfl).weaken (fun _ _ _ _ => trivial))) kc_P_32 ⟨rfl, rfl⟩ ⟨Nat.le_of_ble_eq_true rfl, Nat.le_of_ble_eq_true rfl⟩ rfl hl.1 rfl (Nat.le_of_ble_eq_true rfl) d_P_init_53 ⟨Nat.le_of_ble_eq_true rfl, Nat.le_of_ble_eq_true rfl⟩) hP hD hS hA [7] [0, 1, 2, 3, 4, 5, 6] rfl rfl (by decide) (by decide) (fun z53 H locs hP hD hS => ?_)
  obtain ⟨q53a, q53b⟩ := z53
  have hP : va_P G.1 classes [(a, .inr (0, [.ref o16, .null, .ref o27, .ref o38, .long (p1.toInt64), .int 0])), (o16, .inr (1, [.ref q20, .long 0, .int (-1), .int (nI 0), .int 0])), (q20, .inl (G.2.1, 16, .inr (.inl (fun _ => 0)))), (o27, .inr (1, [.ref q31, .long 0, .int (-1), .int (nI 0), .int 0])), (q31, .inl (G.2.1, 16, .inr (.inl (fun _ => 0)))), (o38, .inr (1, [.ref q42, .long 0, .int (-1), .int (nI 0), .int 0])), (q42, .inl (G.2.1, 16, .inr (.inl (fun _ => 0)))), (o49, .inr (2, [.ref q53a, .ref q53b, .int (nI 0)])), (q53a, .inl (G.2.2.1, 100, .inl (fun _ => 0))), (q53b, .inl (G.2.2.2, 100, .inl (fun _ => 0)))] H := hP
  have hD : va_D A [(a, .inr (0, [.ref o16, .null, .ref o27, .ref o38, .long (p1.toInt64), .int 0])), (o16, .inr (1, [.ref q20, .long 0, .int (-1), .int (nI 0), .int 0])), (q20, .inl (G.2.1, 16, .inr (.inl (fun _ => 0)))), (o27, .inr (1, [.ref q31, .long 0, .int (-1), .int (nI 0), .int 0])), (q31, .inl (G.2.1, 16, .inr (.inl (fun _ => 0)))), (o38, .inr (1, [.ref q42, .long 0, .int (-1), .int (nI 0), .int 0])), (q42, .inl (G.2.1, 16, .inr (.inl (fun _ => 0)))), (o49, .inr (2, [.ref q53a, .ref q53b, .int (nI 0)])), (q53a, .inl (G.2.2.1, 100, .inl (fun _ => 0))), (q53b, .inl (G.2.2.2, 100, .inl (fun _ => 0)))] := hD
  refine va_putF (D := G.1) (ci := 0) (v := .ref o49) (ty := .object "PostDrawer$Verdicts") (C := R_P) (T := F_P) (N := 6) hx hb ht in_P t_P tk_P n_P hown hK hP hD hS 0 rfl rfl 1 (by decide) (ht _ kf_P_33) (fun _ h9 => h9) rfl hin rfl (by decide +kernel) rfl rfl (Nat.le_of_ble_eq_true rfl) d_P_init_56 (fun H locs hP hD hS => ?_)
  have hP : va_P G.1 classes [(a, .inr (0, [.ref o16, .ref o49, .ref o27, .ref o38, .long (p1.toInt64), .int 0])), (o16, .inr (1, [.ref q20, .long 0, .int (-1), .int (nI 0), .int 0])), (q20, .inl (G.2.1, 16, .inr (.inl (fun _ => 0)))), (o27, .inr (1, [.ref q31, .long 0, .int (-1), .int (nI 0), .int 0])), (q31, .inl (G.2.1, 16, .inr (.inl (fun _ => 0)))), (o38, .inr (1, [.ref q42, .long 0, .int (-1), .int (nI 0), .int 0])), (q42, .inl (G.2.1, 16, .inr (.inl (fun _ => 0)))), (o49, .inr (2, [.ref q53a, .ref q53b, .int (nI 0)])), (q53a, .inl (G.2.2.1, 100, .inl (fun _ => 0))), (q53b, .inl (G.2.2.2, 100, .inl (fun _ => 0)))] H := hP
  have hD : va_D A [(a, .inr (0, [.ref o16, .ref o49, .ref o27, .ref o38, .long (p1.toInt64), .int 0])), (o16, .inr (1, [.ref q20, .long 0, .int (-1), .int (nI 0), .int 0])), (q20, .inl (G.2.1, 16, .inr (.inl (fun _ => 0)))), (o27, .inr (1, [.ref q31, .long 0, .int (-1), .int (nI 0), .int 0])), (q31, .inl (G.2.1, 16, .inr (.inl (fun _ => 0)))), (o38, .inr (1, [.ref q42, .long 0, .int (-1), .int (nI 0), .int 0])), (q42, .inl (G.2.1, 16, .inr (.inl (fun _ => 0)))), (o49, .inr (2, [.ref q53a, .ref q53b, .int (nI 0)])), (q53a, .inl (G.2.2.1, 100, .inl (fun _ => 0))), (q53b, .inl (G.2.2.2, 100, .inl (fun _ => 0)))] := hD
  refine W.widen (k := 9) (n := 266) (Nat.le_of_ble_eq_true rfl) (Nat.le_of_ble_eq_true rfl) ?_
  exact W.vret hx hb hr (fun t h9 _ => ⟨⟨(o16, q20, o49, q53a, q53b, o27, q31, o38, q42), rfl, trivial, by rw [h9]; exact hP.sub [0, 1, 2, 7, 8, 9, 3, 4, 5, 6] rfl, hD.sub [0, 1, 2, 7, 8, 9, 3, 4, 5, 6] (by decide) rfl⟩, hS.F h9⟩) hS.2.2 d_P_init_59
