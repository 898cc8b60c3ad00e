def ink0 : Nat → Int32 := (upd (upd (upd (upd (upd (upd (upd (upd (upd (upd (fun _ => 0) 0 31599) 1 11415) 2 29671) 3 29647) 4 23497) 5 31183) 6 31215) 7 29257) 8 31727) 9 31695)
set_option maxHeartbeats 4000000 in
set_option maxRecDepth 100000 in
theorem c_M_init (l : Launch) (G : GT) (H : Heap) (a : Nat) (p1 : Int32) (hP : va_P G.1 classes [(a, .inr (3, [.int 0, .long 0, .long 0, .int 0, .int 0, .int 0, .int 0, .null, .null, .null]))] H) (hD0 : va_D (fun _ => True) [(a, .inr (3, [.int 0, .long 0, .long 0, .int 0, .int 0, .int 0, .int 0, .null, .null, .null]))]) : Met l y_M_init (Cond.code y_M_init b_M_init 2 none :: TG) ({ frames := 1, cells := 3, slots := 210, locals := 12 }) (PC G H [.ref a, .int p1]) (QN G (fun z : Nat × Nat × Nat => [(a, .inr (3, [.int 0, .long p1.toInt64, .long 0, .int (nI 0), .int 0, .int 0, .int (nI 0), .ref z.1, .ref z.2.1, .ref z.2.2])), (z.1, .inl (G.2.2.1, 100, .inl (fun _ => 0))), (z.2.1, .inl (G.2.2.2, 100, .inl (fun _ => 0))), (z.2.2, .inl (G.2.2.1, 10, .inl ink0))]) (va_A [(a, .inr (3, [.int 0, .long 0, .long 0, .int 0, .int 0, .int 0, .int 0, .null, .null, .null]))] H.size)) 3 210 (va_A [(a, .inr (3, [.int 0, .long 0, .long 0, .int 0, .int 0, .int 0, .int 0, .null, .null, .null]))] H.size) := by
  refine Met.ofW (cc := b_M_init) (maxL := 2) (ret := none) (by decide) rfl ?_
  intro p e s m args below meth c s₁ B hml hv
  obtain ⟨rfl, hH, hKN⟩ := hv
  subst hH
  have hx := B.exec
  have hb := B.bytes
  have hr := B.returns
  have hts := atoms_spec (ws := (Cond.code y_M_init b_M_init 2 none :: TG)) B.pre
  have ht : ∀ w ∈ TG, w.before _ s = true := fun w h => hts w (List.mem_cons_of_mem _ h)
  have hown : s.vm.findClass R_M = some m.cls := findClass_of_methodNamed B.named
  have hlocks := B.notSynchronized
  have hK := hKN.1
  have hl := lv_entry ([.ref a, .int p1]) (n := 2) (Nat.le_of_ble_eq_true rfl)
  rw [lg_entry_eq]
  generalize (lg_sl ([.ref a, .int p1]) ++ List.replicate (2 - (lg_sl ([.ref a, .int p1])).length) Slot.unset).toArray = ls at hl ⊢
  have hl : lv_has ls 2 [(0, .ref a), (1, .int p1)] := hl
  have hin : meth.name = "<init>" := (name_of_methodNamed B.named B.method).1
  have hD := hD0.self (sz := s.heap.size)
  generalize hAe : va_A [(a, .inr (3, [.int 0, .long 0, .long 0, .int 0, .int 0, .int 0, .int 0, .null, .null, .null]))] s.heap.size = A at hD ⊢
  have hA : ∀ q : Nat, s.heap.size ≤ q → A q := fun q h => by rw [← hAe]; exact Or.inr h
  have hS : va_S A s.heap s.heap [] := va_S.rf
  refine lv_aload_n hx hb d_M_init_0 rfl (lv_at hl 0 rfl) ?_
  refine W.objInit hx hb hown (ht _ km_M_1) (ht _ k_objI) (ht _ k_objC) rfl (by rw [hml]; exact hl.1) rfl d_M_init_1 (Nat.le_of_ble_eq_true rfl) (Nat.le_of_ble_eq_true rfl) ?_
  refine W.eq (g2 := F0 m 4 ls []) rfl ?_
  refine lv_aload_n hx hb d_M_init_4 rfl (lv_at hl 0 rfl) ?_
  refine lv_bipush (v := 100) hx hb d_M_init_5 (by decide) ?_
  refine va_newa (atype := .int) (ty := .int) (N' := 100) (a0 := (100, .inl (fun _ => 0))) hx hb (ht _ k_arr_int) rfl hK hP hD hS hA (fun _ => rfl) (by decide) (by decide) (by decide) (Nat.le_of_ble_eq_true rfl) (Nat.le_of_ble_eq_true rfl) d_M_init_7 (fun q7 cA H hK1 hP hD hS => ?_)
  obtain rfl : cA = G.2.2.1 := arr_one hK1 3 1 rfl rfl (Or.inr (Or.inl rfl))
  have hP : va_P G.1 classes [(a, .inr (3, [.int 0, .long 0, .long 0, .int 0, .int 0, .int 0, .int 0, .null, .null, .null])), (q7, .inl (G.2.2.1, 100, .inl (fun _ => 0)))] H := hP
  have hD : va_D A [(a, .inr (3, [.int 0, .long 0, .long 0, .int 0, .int 0, .int 0, .int 0, .null, .null, .null])), (q7, .inl (G.2.2.1, 100, .inl (fun _ => 0)))] := hD
  refine va_putF (D := G.1) (ci := 3) (v := .ref q7) (ty := .array .int) (C := R_M) (T := F_M) (N := 10) hx hb ht in_M t_M tk_M n_M hown hK hP hD hS 0 rfl rfl 7 (by decide) (ht _ kf_M_7) (fun _ h9 => h9) rfl hin rfl (by decide +kernel) rfl rfl (Nat.le_of_ble_eq_true rfl) d_M_init_9 (fun H locs hP hD hS => ?_)
  have hP : va_P G.1 classes [(a, .inr (3, [.int 0, .long 0, .long 0, .int 0, .int 0, .int 0, .int 0, .ref q7, .null, .null])), (q7, .inl (G.2.2.1, 100, .inl (fun _ => 0)))] H := hP
  have hD : va_D A [(a, .inr (3, [.int 0, .long 0, .long 0, .int 0, .int 0, .int 0, .int 0, .ref q7, .null, .null])), (q7, .inl (G.2.2.1, 100, .inl (fun _ => 0)))] := hD
  refine lv_aload_n hx hb d_M_init_12 rfl (lv_at hl 0 rfl) ?_
  refine lv_bipush (v := 100) hx hb d_M_init_13 (by decide) ?_
  refine va_newa (atype := .boolean) (ty := .boolean) (N' := 100) (a0 := (100, .inl (fun _ => 0))) hx hb (ht _ k_arr_boolean) rfl hK hP hD hS hA (fun _ => rfl) (by decide) (by decide) (by decide) (Nat.le_of_ble_eq_true rfl) (Nat.le_of_ble_eq_true rfl) d_M_init_15 (fun q15 cA H hK1 hP hD hS => ?_)
  obtain rfl : cA = G.2.2.2 := arr_one hK1 3 2 rfl rfl (Or.inr (Or.inr rfl))
  have hP : va_P G.1 classes [(a, .inr (3, [.int 0, .long 0, .long 0, .int 0, .int 0, .int 0, .int 0, .ref q7, .null, .null])), (q7, .inl (G.2.2.1, 100, .inl (fun _ => 0))), (q15, .inl (G.2.2.2, 100, .inl (fun _ => 0)))] H := hP
  have hD : va_D A [(a, .inr (3, [.int 0, .long 0, .long 0, .int 0, .int 0, .int 0, .int 0, .ref q7, .null, .null])), (q7, .inl (G.2.2.1, 100, .inl (fun _ => 0))), (q15, .inl (G.2.2.2, 100, .inl (fun _ => 0)))] := hD
  refine va_putF (D := G.1) (ci := 3) (v := .ref q15) (ty := .array .boolean) (C := R_M) (T := F_M) (N := 10) hx hb ht in_M t_M tk_M n_M hown hK hP hD hS 0 rfl rfl 8 (by decide) (ht _ kf_M_13) (fun _ h9 => h9) rfl hin rfl (by decide +kernel) rfl rfl (Nat.le_of_ble_eq_true rfl) d_M_init_17 (fun H locs hP hD hS => ?_)
  have hP : va_P G.1 classes [(a, .inr (3, [.int 0, .long 0, .long 0, .int 0, .int 0, .int 0, .int 0, .ref q7, .ref q15, .null])), (q7, .inl (G.2.2.1, 100, .inl (fun _ => 0))), (q15, .inl (G.2.2.2, 100, .inl (fun _ => 0)))] H := hP
  have hD : va_D A [(a, .inr (3, [.int 0, .long 0, .long 0, .int 0, .int 0, .int 0, .int 0, .ref q7, .ref q15, .null])), (q7, .inl (G.2.2.1, 100, .inl (fun _ => 0))), (q15, .inl (G.2.2.2, 100, .inl (fun _ => 0)))] := hD
  refine lv_aload_n hx hb d_M_init_20 rfl (lv_at hl 0 rfl) ?_
  refine lv_bipush (v := 10) hx hb d_M_init_21 (by decide) ?_
  refine va_newa (atype := .int) (ty := .int) (N' := 10) (a0 := (10, .inl (fun _ => 0))) hx hb (ht _ k_arr_int) rfl hK hP hD hS hA (fun _ => rfl) (by decide) (by decide) (by decide) (Nat.le_of_ble_eq_true rfl) (Nat.le_of_ble_eq_true rfl) d_M_init_23 (fun q23 cA H hK1 hP hD hS => ?_)
  obtain rfl : cA = G.2.2.1 := arr_one hK1 3 1 rfl rfl (Or.inr (Or.inl rfl))
  have hP : va_P G.1 classes [(a, .inr (3, [.int 0, .long 0, .long 0, .int 0, .int 0, .int 0, .int 0, .ref q7, .ref q15, .null])), (q7, .inl (G.2.2.1, 100, .inl (fun _ => 0))), (q15, .inl (G.2.2.2, 100, .inl (fun _ => 0))), (q23, .inl (G.2.2.1, 10, .inl (fun _ => 0)))] H := hP
  have hD : va_D A [(a, .inr (3, [.int 0, .long 0, .long 0, .int 0, .int 0, .int 0, .int 0, .ref q7, .ref q15, .null])), (q7, .inl (G.2.2.1, 100, .inl (fun _ => 0))), (q15, .inl (G.2.2.2, 100, .inl (fun _ => 0))), (q23, .inl (G.2.2.1, 10, .inl (fun _ => 0)))] := hD
  refine va_putF (D := G.1) (ci := 3) (v := .ref q23) (ty := .array .int) (C := R_M) (T := F_M) (N := 10) hx hb ht in_M t_M tk_M n_M hown hK hP hD hS 0 rfl rfl 9 (by decide) (ht _ kf_M_17) (fun _ h9 => h9) rfl hin rfl (by decide +kernel) rfl rfl (Nat.le_of_ble_eq_true rfl) d_M_init_25 (fun H locs hP hD hS => ?_)
  have hP : va_P G.1 classes [(a, .inr (3, [.int 0, .long 0, .long 0, .int 0, .int 0, .int 0, .int 0, .ref q7, .ref q15, .ref q23])), (q7, .inl (G.2.2.1, 100, .inl (fun _ => 0))), (q15, .inl (G.2.2.2, 100, .inl (fun _ => 0))), (q23, .inl (G.2.2.1, 10, .inl (fun _ => 0)))] H := hP
  have hD : va_D A [(a, .inr (3, [.int 0, .long 0, .long 0, .int 0, .int 0, .int 0, .int 0, .ref q7, .ref q15, .ref q23])), (q7, .inl (G.2.2.1, 100, .inl (fun _ => 0))), (q15, .inl (G.2.2.2, 100, .inl (fun _ => 0))), (q23, .inl (G.2.2.1, 10, .inl (fun _ => 0)))] := hD
  refine lv_aload_n hx hb d_M_init_28 rfl (lv_at hl 0 rfl) ?_
  refine lv_iload_n hx hb d_M_init_29 rfl (lv_at hl 1 rfl) ?_
  refine lv_i2l hx hb d_M_init_30 rfl ?_
  refine va_put (D := G.1) (ci := 3) (v := .long (p1.toInt64)) (ty := .long) (C := R_M) (T := F_M) (N := 10) hx hb ht in_M t_M tk_M n_M hown hK hP hD hS 0 rfl rfl 1 (by decide) (ht _ kf_M_20) (fun _ h9 => h9) rfl (by decide +kernel) rfl rfl (Nat.le_of_ble_eq_true rfl) d_M_init_31 (fun H locs hP hD hS => ?_)
  have hP : va_P G.1 classes [(a, .inr (3, [.int 0, .long (p1.toInt64), .long 0, .int 0, .int 0, .int 0, .int 0, .ref q7, .ref q15, .ref q23])), (q7, .inl (G.2.2.1, 100, .inl (fun _ => 0))), (q15, .inl (G.2.2.2, 100, .inl (fun _ => 0))), (q23, .inl (G.2.2.1, 10, .inl (fun _ => 0)))] H := hP
  have hD : va_D A [(a, .inr (3, [.int 0, .long (p1.toInt64), .long 0, .int 0, .int 0, .int 0, .int 0, .ref q7, .ref q15, .ref q23])), (q7, .inl (G.2.2.1, 100, .inl (fun _ => 0))), (q15, .inl (G.2.2.2, 100, .inl (fun _ => 0))), (q23, .inl (G.2.2.1, 10, .inl (fun _ => 0)))] := hD
  refine lv_aload_n hx hb d_M_init_34 rfl (lv_at hl 0 rfl) ?_
  refine va_get (D := G.1) (ci := 3) (v := .ref q23) (C := R_M) (T := F_M) (N := 10) hx hb ht in_M hown hK hP 0 rfl rfl 9 (by decide) (ht _ kf_M_17) (fun _ h9 => h9) rfl d_M_init_35 ?_
  refine lv_iconst (v := 0) hx hb d_M_init_38 (by decide) ?_
  refine lv_sipush (v := 31599) hx hb d_M_init_39 (by decide) ?_
  refine va_iast hx hb hK hP hD hS 3 1 rfl rfl (i := 0) (vp_in_nI (show 0 < 10 by decide) (by decide)) d_M_init_42 (fun H locs hP hD hS => ?_)
  have hP : va_P G.1 classes [(a, .inr (3, [.int 0, .long (p1.toInt64), .long 0, .int 0, .int 0, .int 0, .int 0, .ref q7, .ref q15, .ref q23])), (q7, .inl (G.2.2.1, 100, .inl (fun _ => 0))), (q15, .inl (G.2.2.2, 100, .inl (fun _ => 0))), (q23, .inl (G.2.2.1, 10, .inl (upd (fun _ => 0) (0 : Int32).toNatClampNeg 31599)))] H := hP
  have hD : va_D A [(a, .inr (3, [.int 0, .long (p1.toInt64), .long 0, .int 0, .int 0, .int 0, .int 0, .ref q7, .ref q15, .ref q23])), (q7, .inl (G.2.2.1, 100, .inl (fun _ => 0))), (q15, .inl (G.2.2.2, 100, .inl (fun _ => 0))), (q23, .inl (G.2.2.1, 10, .inl (upd (fun _ => 0) (0 : Int32).toNatClampNeg 31599)))] := hD
  refine lv_aload_n hx hb d_M_init_43 rfl (lv_at hl 0 rfl) ?_
  refine va_get (D := G.1) (ci := 3) (v := .ref q23) (C := R_M) (T := F_M) (N := 10) hx hb ht in_M hown hK hP 0 rfl rfl 9 (by decide) (ht _ kf_M_17) (fun _ h9 => h9) rfl d_M_init_44 ?_
  refine lv_iconst (v := 1) hx hb d_M_init_47 (by decide) ?_
  refine lv_sipush (v := 11415) hx hb d_M_init_48 (by decide) ?_
  refine va_iast hx hb hK hP hD hS 3 1 rfl rfl (i := 1) (vp_in_nI (show 1 < 10 by decide) (by decide)) d_M_init_51 (fun H locs hP hD hS => ?_)
  have hP : va_P G.1 classes [(a, .inr (3, [.int 0, .long (p1.toInt64), .long 0, .int 0, .int 0, .int 0, .int 0, .ref q7, .ref q15, .ref q23])), (q7, .inl (G.2.2.1, 100, .inl (fun _ => 0))), (q15, .inl (G.2.2.2, 100, .inl (fun _ => 0))), (q23, .inl (G.2.2.1, 10, .inl (upd (upd (fun _ => 0) (0 : Int32).toNatClampNeg 31599) (1 : Int32).toNatClampNeg 11415)))] H := hP
  have hD : va_D A [(a, .inr (3, [.int 0, .long (p1.toInt64), .long 0, .int 0, .int 0, .int 0, .int 0, .ref q7, .ref q15, .ref q23])), (q7, .inl (G.2.2.1, 100, .inl (fun _ => 0))), (q15, .inl (G.2.2.2, 100, .inl (fun _ => 0))), (q23, .inl (G.2.2.1, 10, .inl (upd (upd (fun _ => 0) (0 : Int32).toNatClampNeg 31599) (1 : Int32).toNatClampNeg 11415)))] := hD
  refine lv_aload_n hx hb d_M_init_52 rfl (lv_at hl 0 rfl) ?_
  refine va_get (D := G.1) (ci := 3) (v := .ref q23) (C := R_M) (T := F_M) (N := 10) hx hb ht in_M hown hK hP 0 rfl rfl 9 (by decide) (ht _ kf_M_17) (fun _ h9 => h9) rfl d_M_init_53 ?_
  refine lv_iconst (v := 2) hx hb d_M_init_56 (by decide) ?_
  refine lv_sipush (v := 29671) hx hb d_M_init_57 (by decide) ?_
  refine va_iast hx hb hK hP hD hS 3 1 rfl rfl (i := 2) (vp_in_nI (show 2 < 10 by decide) (by decide)) d_M_init_60 (fun H locs hP hD hS => ?_)
  have hP : va_P G.1 classes [(a, .inr (3, [.int 0, .long (p1.toInt64), .long 0, .int 0, .int 0, .int 0, .int 0, .ref q7, .ref q15, .ref q23])), (q7, .inl (G.2.2.1, 100, .inl (fun _ => 0))), (q15, .inl (G.2.2.2, 100, .inl (fun _ => 0))), (q23, .inl (G.2.2.1, 10, .inl (upd (upd (upd (fun _ => 0) (0 : Int32).toNatClampNeg 31599) (1 : Int32).toNatClampNeg 11415) (2 : Int32).toNatClampNeg 29671)))] H := hP
  have hD : va_D A [(a, .inr (3, [.int 0, .long (p1.toInt64), .long 0, .int 0, .int 0, .int 0, .int 0, .ref q7, .ref q15, .ref q23])), (q7, .inl (G.2.2.1, 100, .inl (fun _ => 0))), (q15, .inl (G.2.2.2, 100, .inl (fun _ => 0))), (q23, .inl (G.2.2.1, 10, .inl (upd (upd (upd (fun _ => 0) (0 : Int32).toNatClampNeg 31599) (1 : Int32).toNatClampNeg 11415) (2 : Int32).toNatClampNeg 29671)))] := hD
  refine lv_aload_n hx hb d_M_init_61 rfl (lv_at hl 0 rfl) ?_
  refine va_get (D := G.1) (ci := 3) (v := .ref q23) (C := R_M) (T := F_M) (N := 10) hx hb ht in_M hown hK hP 0 rfl rfl 9 (by decide) (ht _ kf_M_17) (fun _ h9 => h9) rfl d_M_init_62 ?_
  refine lv_iconst (v := 3) hx hb d_M_init_65 (by decide) ?_
  refine lv_sipush (v := 29647) hx hb d_M_init_66 (by decide) ?_
  refine va_iast hx hb hK hP hD hS 3 1 rfl rfl (i := 3) (vp_in_nI (show 3 < 10 by decide) (by decide)) d_M_init_69 (fun H locs hP hD hS => ?_)
  have hP : va_P G.1 classes [(a, .inr (3, [.int 0, .long (p1.toInt64), .long 0, .int 0, .int 0, .int 0, .int 0, .ref q7, .ref q15, .ref q23])), (q7, .inl (G.2.2.1, 100, .inl (fun _ => 0))), (q15, .inl (G.2.2.2, 100, .inl (fun _ => 0))), (q23, .inl (G.2.2.1, 10, .inl (upd (upd (upd (upd (fun _ => 0) (0 : Int32).toNatClampNeg 31599) (1 : Int32).toNatClampNeg 11415) (2 : Int32).toNatClampNeg 29671) (3 : Int32).toNatClampNeg 29647)))] H := hP
  have hD : va_D A [(a, .inr (3, [.int 0, .long (p1.toInt64), .long 0, .int 0, .int 0, .int 0, .int 0, .ref q7, .ref q15, .ref q23])), (q7, .inl (G.2.2.1, 100, .inl (fun _ => 0))), (q15, .inl (G.2.2.2, 100, .inl (fun _ => 0))), (q23, .inl (G.2.2.1, 10, .inl (upd (upd (upd (upd (fun _ => 0) (0 : Int32).toNatClampNeg 31599) (1 : Int32).toNatClampNeg 11415) (2 : Int32).toNatClampNeg 29671) (3 : Int32).toNatClampNeg 29647)))] := hD
  refine lv_aload_n hx hb d_M_init_70 rfl (lv_at hl 0 rfl) ?_
  refine va_get (D := G.1) (ci := 3) (v := .ref q23) (C := R_M) (T := F_M) (N := 10) hx hb ht in_M hown hK hP 0 rfl rfl 9 (by decide) (ht _ kf_M_17) (fun _ h9 => h9) rfl d_M_init_71 ?_
  refine lv_iconst (v := 4) hx hb d_M_init_74 (by decide) ?_
  refine lv_sipush (v := 23497) hx hb d_M_init_75 (by decide) ?_
  refine va_iast hx hb hK hP hD hS 3 1 rfl rfl (i := 4) (vp_in_nI (show 4 < 10 by decide) (by decide)) d_M_init_78 (fun H locs hP hD hS => ?_)
  have hP : va_P G.1 classes [(a, .inr (3, [.int 0, .long (p1.toInt64), .long 0, .int 0, .int 0, .int 0, .int 0, .ref q7, .ref q15, .ref q23])), (q7, .inl (G.2.2.1, 100, .inl (fun _ => 0))), (q15, .inl (G.2.2.2, 100, .inl (fun _ => 0))), (q23, .inl (G.2.2.1, 10, .inl (upd (upd (upd (upd (upd (fun _ => 0) (0 : Int32).toNatClampNeg 31599) (1 : Int32).toNatClampNeg 11415) (2 : Int32).toNatClampNeg 29671) (3 : Int32).toNatClampNeg 29647) (4 : Int32).toNatClampNeg 23497)))] H := hP
  have hD : va_D A [(a, .inr (3, [.int 0, .long (p1.toInt64), .long 0, .int 0, .int 0, .int 0, .int 0, .ref q7, .ref q15, .ref q23])), (q7, .inl (G.2.2.1, 100, .inl (fun _ => 0))), (q15, .inl (G.2.2.2, 100, .inl (fun _ => 0))), (q23, .inl (G.2.2.1, 10, .inl (upd (upd (upd (upd (upd (fun _ => 0) (0 : Int32).toNatClampNeg 31599) (1 : Int32).toNatClampNeg 11415) (2 : Int32).toNatClampNeg 29671) (3 : Int32).toNatClampNeg 29647) (4 : Int32).toNatClampNeg 23497)))] := hD
  refine lv_aload_n hx hb d_M_init_79 rfl (lv_at hl 0 rfl) ?_
  refine va_get (D := G.1) (ci := 3) (v := .ref q23) (C := R_M) (T := F_M) (N := 10) hx hb ht in_M hown hK hP 0 rfl rfl 9 (by decide) (ht _ kf_M_17) (fun _ h9 => h9) rfl d_M_init_80 ?_
  refine lv_iconst (v := 5) hx hb d_M_init_83 (by decide) ?_
  refine lv_sipush (v := 31183) hx hb d_M_init_84 (by decide) ?_
  refine va_iast hx hb hK hP hD hS 3 1 rfl rfl (i := 5) (vp_in_nI (show 5 < 10 by decide) (by decide)) d_M_init_87 (fun H locs hP hD hS => ?_)
  have hP : va_P G.1 classes [(a, .inr (3, [.int 0, .long (p1.toInt64), .long 0, .int 0, .int 0, .int 0, .int 0, .ref q7, .ref q15, .ref q23])), (q7, .inl (G.2.2.1, 100, .inl (fun _ => 0))), (q15, .inl (G.2.2.2, 100, .inl (fun _ => 0))), (q23, .inl (G.2.2.1, 10, .inl (upd (upd (upd (upd (upd (upd (fun _ => 0) (0 : Int32).toNatClampNeg 31599) (1 : Int32).toNatClampNeg 11415) (2 : Int32).toNatClampNeg 29671) (3 : Int32).toNatClampNeg 29647) (4 : Int32).toNatClampNeg 23497) (5 : Int32).toNatClampNeg 31183)))] H := hP
  have hD : va_D A [(a, .inr (3, [.int 0, .long (p1.toInt64), .long 0, .int 0, .int 0, .int 0, .int 0, .ref q7, .ref q15, .ref q23])), (q7, .inl (G.2.2.1, 100, .inl (fun _ => 0))), (q15, .inl (G.2.2.2, 100, .inl (fun _ => 0))), (q23, .inl (G.2.2.1, 10, .inl (upd (upd (upd (upd (upd (upd (fun _ => 0) (0 : Int32).toNatClampNeg 31599) (1 : Int32).toNatClampNeg 11415) (2 : Int32).toNatClampNeg 29671) (3 : Int32).toNatClampNeg 29647) (4 : Int32).toNatClampNeg 23497) (5 : Int32).toNatClampNeg 31183)))] := hD
  refine lv_aload_n hx hb d_M_init_88 rfl (lv_at hl 0 rfl) ?_
  refine va_get (D := G.1) (ci := 3) (v := .ref q23) (C := R_M) (T := F_M) (N := 10) hx hb ht in_M hown hK hP 0 rfl rfl 9 (by decide) (ht _ kf_M_17) (fun _ h9 => h9) rfl d_M_init_89 ?_
  refine lv_bipush (v := 6) hx hb d_M_init_92 (by decide) ?_
  refine lv_sipush (v := 31215) hx hb d_M_init_94 (by decide) ?_
  refine va_iast hx hb hK hP hD hS 3 1 rfl rfl (i := 6) (vp_in_nI (show 6 < 10 by decide) (by decide)) d_M_init_97 (fun H locs hP hD hS => ?_)
  have hP : va_P G.1 classes [(a, .inr (3, [.int 0, .long (p1.toInt64), .long 0, .int 0, .int 0, .int 0, .int 0, .ref q7, .ref q15, .ref q23])), (q7, .inl (G.2.2.1, 100, .inl (fun _ => 0))), (q15, .inl (G.2.2.2, 100, .inl (fun _ => 0))), (q23, .inl (G.2.2.1, 10, .inl (upd (upd (upd (upd (upd (upd (upd (fun _ => 0) (0 : Int32).toNatClampNeg 31599) (1 : Int32).toNatClampNeg 11415) (2 : Int32).toNatClampNeg 29671) (3 : Int32).toNatClampNeg 29647) (4 : Int32).toNatClampNeg 23497) (5 : Int32).toNatClampNeg 31183) (6 : Int32).toNatClampNeg 31215)))] H := hP
  have hD : va_D A [(a, .inr (3, [.int 0, .long (p1.toInt64), .long 0, .int 0, .int 0, .int 0, .int 0, .ref q7, .ref q15, .ref q23])), (q7, .inl (G.2.2.1, 100, .inl (fun _ => 0))), (q15, .inl (G.2.2.2, 100, .inl (fun _ => 0))), (q23, .inl (G.2.2.1, 10, .inl (upd (upd (upd (upd (upd (upd (upd (fun _ => 0) (0 : Int32).toNatClampNeg 31599) (1 : Int32).toNatClampNeg 11415) (2 : Int32).toNatClampNeg 29671) (3 : Int32).toNatClampNeg 29647) (4 : Int32).toNatClampNeg 23497) (5 : Int32).toNatClampNeg 31183) (6 : Int32).toNatClampNeg 31215)))] := hD
  refine lv_aload_n hx hb d_M_init_98 rfl (lv_at hl 0 rfl) ?_
  refine va_get (D := G.1) (ci := 3) (v := .ref q23) (C := R_M) (T := F_M) (N := 10) hx hb ht in_M hown hK hP 0 rfl rfl 9 (by decide) (ht _ kf_M_17) (fun _ h9 => h9) rfl d_M_init_99 ?_
  refine lv_bipush (v := 7) hx hb d_M_init_102 (by decide) ?_
  refine lv_sipush (v := 29257) hx hb d_M_init_104 (by decide) ?_
  refine va_iast hx hb hK hP hD hS 3 1 rfl rfl (i := 7) (vp_in_nI (show 7 < 10 by decide) (by decide)) d_M_init_107 (fun H locs hP hD hS => ?_)
  have hP : va_P G.1 classes [(a, .inr (3, [.int 0, .long (p1.toInt64), .long 0, .int 0, .int 0, .int 0, .int 0, .ref q7, .ref q15, .ref q23])), (q7, .inl (G.2.2.1, 100, .inl (fun _ => 0))), (q15, .inl (G.2.2.2, 100, .inl (fun _ => 0))), (q23, .inl (G.2.2.1, 10, .inl (upd (upd (upd (upd (upd (upd (upd (upd (fun _ => 0) (0 : Int32).toNatClampNeg 31599) (1 : Int32).toNatClampNeg 11415) (2 : Int32).toNatClampNeg 29671) (3 : Int32).toNatClampNeg 29647) (4 : Int32).toNatClampNeg 23497) (5 : Int32).toNatClampNeg 31183) (6 : Int32).toNatClampNeg 31215) (7 : Int32).toNatClampNeg 29257)))] H := hP
  have hD : va_D A [(a, .inr (3, [.int 0, .long (p1.toInt64), .long 0, .int 0, .int 0, .int 0, .int 0, .ref q7, .ref q15, .ref q23])), (q7, .inl (G.2.2.1, 100, .inl (fun _ => 0))), (q15, .inl (G.2.2.2, 100, .inl (fun _ => 0))), (q23, .inl (G.2.2.1, 10, .inl (upd (upd (upd (upd (upd (upd (upd (upd (fun _ => 0) (0 : Int32).toNatClampNeg 31599) (1 : Int32).toNatClampNeg 11415) (2 : Int32).toNatClampNeg 29671) (3 : Int32).toNatClampNeg 29647) (4 : Int32).toNatClampNeg 23497) (5 : Int32).toNatClampNeg 31183) (6 : Int32).toNatClampNeg 31215) (7 : Int32).toNatClampNeg 29257)))] := hD
  refine lv_aload_n hx hb d_M_init_108 rfl (lv_at hl 0 rfl) ?_
  refine va_get (D := G.1) (ci := 3) (v := .ref q23) (C := R_M) (T := F_M) (N := 10) hx hb ht in_M hown hK hP 0 rfl rfl 9 (by decide) (ht _ kf_M_17) (fun _ h9 => h9) rfl d_M_init_109 ?_
  refine lv_bipush (v := 8) hx hb d_M_init_112 (by decide) ?_
  refine lv_sipush (v := 31727) hx hb d_M_init_114 (by decide) ?_
  refine va_iast hx hb hK hP hD hS 3 1 rfl rfl (i := 8) (vp_in_nI (show 8 < 10 by decide) (by decide)) d_M_init_117 (fun H locs hP hD hS => ?_)
  have hP : va_P G.1 classes [(a, .inr (3, [.int 0, .long (p1.toInt64), .long 0, .int 0, .int 0, .int 0, .int 0, .ref q7, .ref q15, .ref q23])), (q7, .inl (G.2.2.1, 100, .inl (fun _ => 0))), (q15, .inl (G.2.2.2, 100, .inl (fun _ => 0))), (q23, .inl (G.2.2.1, 10, .inl (upd (upd (upd (upd (upd (upd (upd (upd (upd (fun _ => 0) (0 : Int32).toNatClampNeg 31599) (1 : Int32).toNatClampNeg 11415) (2 : Int32).toNatClampNeg 29671) (3 : Int32).toNatClampNeg 29647) (4 : Int32).toNatClampNeg 23497) (5 : Int32).toNatClampNeg 31183) (6 : Int32).toNatClampNeg 31215) (7 : Int32).toNatClampNeg 29257) (8 : Int32).toNatClampNeg 31727)))] H := hP
  have hD : va_D A [(a, .inr (3, [.int 0, .long (p1.toInt64), .long 0, .int 0, .int 0, .int 0, .int 0, .ref q7, .ref q15, .ref q23])), (q7, .inl (G.2.2.1, 100, .inl (fun _ => 0))), (q15, .inl (G.2.2.2, 100, .inl (fun _ => 0))), (q23, .inl (G.2.2.1, 10, .inl (upd (upd (upd (upd (upd (upd (upd (upd (upd (fun _ => 0) (0 : Int32).toNatClampNeg 31599) (1 : Int32).toNatClampNeg 11415) (2 : Int32).toNatClampNeg 29671) (3 : Int32).toNatClampNeg 29647) (4 : Int32).toNatClampNeg 23497) (5 : Int32).toNatClampNeg 31183) (6 : Int32).toNatClampNeg 31215) (7 : Int32).toNatClampNeg 29257) (8 : Int32).toNatClampNeg 31727)))] := hD
  refine lv_aload_n hx hb d_M_init_118 rfl (lv_at hl 0 rfl) ?_
  refine va_get (D := G.1) (ci := 3) (v := .ref q23) (C := R_M) (T := F_M) (N := 10) hx hb ht in_M hown hK hP 0 rfl rfl 9 (by decide) (ht _ kf_M_17) (fun _ h9 => h9) rfl d_M_init_119 ?_
  refine lv_bipush (v := 9) hx hb d_M_init_122 (by decide) ?_
  refine lv_sipush (v := 31695) hx hb d_M_init_124 (by decide) ?_
  refine va_iast hx hb hK hP hD hS 3 1 rfl rfl (i := 9) (vp_in_nI (show 9 < 10 by decide) (by decide)) d_M_init_127 (fun H locs hP hD hS => ?_)
  have hP : va_P G.1 classes [(a, .inr (3, [.int 0, .long (p1.toInt64), .long 0, .int 0, .int 0, .int 0, .int 0, .ref q7, .ref q15, .ref q23])), (q7, .inl (G.2.2.1, 100, .inl (fun _ => 0))), (q15, .inl (G.2.2.2, 100, .inl (fun _ => 0))), (q23, .inl (G.2.2.1, 10, .inl (upd (upd (upd (upd (upd (upd (upd (upd (upd (upd (fun _ => 0) (0 : Int32).toNatClampNeg 31599) (1 : Int32).toNatClampNeg 11415) (2 : Int32).toNatClampNeg 29671) (3 : Int32).toNatClampNeg 29647) (4 : Int32).toNatClampNeg 23497) (5 : Int32).toNatClampNeg 31183) (6 : Int32).toNatClampNeg 31215) (7 : Int32).toNatClampNeg 29257) (8 : Int32).toNatClampNeg 31727) (9 : Int32).toNatClampNeg 31695)))] H := hP
  have hD : va_D A [(a, .inr (3, [.int 0, .long (p1.toInt64), .long 0, .int 0, .int 0, .int 0, .int 0, .ref q7, .ref q15, .ref q23])), (q7, .inl (G.2.2.1, 100, .inl (fun _ => 0))), (q15, .inl (G.2.2.2, 100, .inl (fun _ => 0))), (q23, .inl (G.2.2.1, 10, .inl (upd (upd (upd (upd (upd (upd (upd (upd (upd (upd (fun _ => 0) (0 : Int32).toNatClampNeg 31599) (1 : Int32).toNatClampNeg 11415) (2 : Int32).toNatClampNeg 29671) (3 : Int32).toNatClampNeg 29647) (4 : Int32).toNatClampNeg 23497) (5 : Int32).toNatClampNeg 31183) (6 : Int32).toNatClampNeg 31215) (7 : Int32).toNatClampNeg 29257) (8 : Int32).toNatClampNeg 31727) (9 : Int32).toNatClampNeg 31695)))] := hD
  refine W.widen (k := 3) (n := 210) (Nat.le_of_ble_eq_true rfl) (Nat.le_of_ble_eq_true rfl) ?_
  exact W.vret hx hb hr (fun t h9 _ => ⟨⟨(q7, q15, q23), rfl, trivial, by rw [h9]; exact hP.sub [0, 1, 2, 3] rfl, hD.sub [0, 1, 2, 3] (by decide) rfl⟩, hS.F h9⟩) hS.2.2 d_M_init_128
