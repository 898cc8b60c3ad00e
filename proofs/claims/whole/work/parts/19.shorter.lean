def bcS1 (x : Int32) : Int32 := x - (((x.toUInt32 >>> ((1 : Int32).toUInt32 &&& Int32.toUInt32 31)).toInt32) &&& 1431655765)
def bcS2 (x : Int32) : Int32 := (x &&& 858993459) + (((x.toUInt32 >>> ((2 : Int32).toUInt32 &&& Int32.toUInt32 31)).toInt32) &&& 858993459)
def bcS3 (x : Int32) : Int32 := (x + ((x.toUInt32 >>> ((4 : Int32).toUInt32 &&& Int32.toUInt32 31)).toInt32)) &&& 252645135
def bcS4 (x : Int32) : Int32 := x + ((x.toUInt32 >>> ((8 : Int32).toUInt32 &&& Int32.toUInt32 31)).toInt32)
def bcS5 (x : Int32) : Int32 := x + ((x.toUInt32 >>> ((16 : Int32).toUInt32 &&& Int32.toUInt32 31)).toInt32)
def bcS6 (x : Int32) : Int32 := (x &&& 63)
def fn_J_bitCount (p1 : Int32) : Int32 := bcS6 (bcS5 (bcS4 (bcS3 (bcS2 (bcS1 (p1))))))
set_option maxHeartbeats 4000000 in
set_option maxRecDepth 100000 in
theorem c_J_bitCount (l : Launch) (G : GT) (H : Heap) (p1 : Int32) : Met l y_J_bitCount (Cond.code y_J_bitCount b_J_bitCount 1 (some .int) :: TG) ({ frames := 0, cells := 0, slots := 0, locals := 0 }) (PC G H [.int p1]) (QcRead (fn_J_bitCount p1)) 0 0 (fun _ => False) := by
  refine Met.ofW (cc := b_J_bitCount) (maxL := 1) (ret := (some .int)) (by decide) rfl ?_
  intro p e s m args below meth c s₁ B hml hv
  obtain ⟨rfl, hH, hKN⟩ := hv
  subst hH
  have hx := B.exec
  have hb := B.bytes
  have hr := B.returns
  have hts := atoms_spec (ws := (Cond.code y_J_bitCount b_J_bitCount 1 (some .int) :: TG)) B.pre
  have ht : ∀ w ∈ TG, w.before _ s = true := fun w h => hts w (List.mem_cons_of_mem _ h)
  have hown : s.vm.findClass R_J = some m.cls := findClass_of_methodNamed B.named
  have hlocks := B.notSynchronized
  have hK := hKN.1
  have hl := lv_entry ([.int p1]) (n := 1) (Nat.le_of_ble_eq_true rfl)
  rw [lg_entry_eq]
  generalize (lg_sl ([.int p1]) ++ List.replicate (1 - (lg_sl ([.int p1])).length) Slot.unset).toArray = ls at hl ⊢
  have hl : lv_has ls 1 [(0, .int p1)] := hl
  refine lv_iload_n hx hb d_J_bitCount_0 rfl (lv_at hl 0 rfl) ?_
  refine lv_iload_n hx hb d_J_bitCount_1 rfl (lv_at hl 0 rfl) ?_
  refine lv_iconst (v := 1) hx hb d_J_bitCount_2 (by decide) ?_
  refine lv_iushr hx hb d_J_bitCount_3 rfl ?_
  refine lv_ldcw (v := 1431655765) hx hb hown (ht _ kl_J_265) d_J_bitCount_4 ?_
  refine lv_iand hx hb d_J_bitCount_7 ?_
  refine lv_isub hx hb d_J_bitCount_8 ?_
  refine lv_topi (fun v1 e1 => ?_)
  refine lv_istore_n (lv' := [(0, .int v1)]) hx hb d_J_bitCount_9 rfl hl (by decide) rfl (fun ls hl => ?_)
  refine lv_iload_n hx hb d_J_bitCount_10 rfl (lv_at hl 0 rfl) ?_
  refine lv_ldcw (v := 858993459) hx hb hown (ht _ kl_J_266) d_J_bitCount_11 ?_
  refine lv_iand hx hb d_J_bitCount_14 ?_
  refine lv_iload_n hx hb d_J_bitCount_15 rfl (lv_at hl 0 rfl) ?_
  refine lv_iconst (v := 2) hx hb d_J_bitCount_16 (by decide) ?_
  refine lv_iushr hx hb d_J_bitCount_17 rfl ?_
  refine lv_ldcw (v := 858993459) hx hb hown (ht _ kl_J_266) d_J_bitCount_18 ?_
  refine lv_iand hx hb d_J_bitCount_21 ?_
  refine lv_iadd hx hb d_J_bitCount_22 ?_
  refine lv_topi (fun v2 e2 => ?_)
  refine lv_istore_n (lv' := [(0, .int v2)]) hx hb d_J_bitCount_23 rfl hl (by decide) rfl (fun ls hl => ?_)
  refine lv_iload_n hx hb d_J_bitCount_24 rfl (lv_at hl 0 rfl) ?_
  refine lv_iload_n hx hb d_J_bitCount_25 rfl (lv_at hl 0 rfl) ?_
  refine lv_iconst (v := 4) hx hb d_J_bitCount_26 (by decide) ?_
  refine lv_iushr hx hb d_J_bitCount_27 rfl ?_
  refine lv_iadd hx hb d_J_bitCount_28 ?_
  refine lv_ldcw (v := 252645135) hx hb hown (ht _ kl_J_267) d_J_bitCount_29 ?_
  refine lv_iand hx hb d_J_bitCount_32 ?_
  refine lv_topi (fun v3 e3 => ?_)
  refine lv_istore_n (lv' := [(0, .int v3)]) hx hb d_J_bitCount_33 rfl hl (by decide) rfl (fun ls hl => ?_)
  refine lv_iload_n hx hb d_J_bitCount_34 rfl (lv_at hl 0 rfl) ?_
  refine lv_iload_n hx hb d_J_bitCount_35 rfl (lv_at hl 0 rfl) ?_
  refine lv_bipush (v := 8) hx hb d_J_bitCount_36 (by decide) ?_
  refine lv_iushr hx hb d_J_bitCount_38 rfl ?_
  refine lv_iadd hx hb d_J_bitCount_39 ?_
  refine lv_topi (fun v4 e4 => ?_)
  refine lv_istore_n (lv' := [(0, .int v4)]) hx hb d_J_bitCount_40 rfl hl (by decide) rfl (fun ls hl => ?_)
  refine lv_iload_n hx hb d_J_bitCount_41 rfl (lv_at hl 0 rfl) ?_
  refine lv_iload_n hx hb d_J_bitCount_42 rfl (lv_at hl 0 rfl) ?_
  refine lv_bipush (v := 16) hx hb d_J_bitCount_43 (by decide) ?_
  refine lv_iushr hx hb d_J_bitCount_45 rfl ?_
  refine lv_iadd hx hb d_J_bitCount_46 ?_
  refine lv_topi (fun v5 e5 => ?_)
  refine lv_istore_n (lv' := [(0, .int v5)]) hx hb d_J_bitCount_47 rfl hl (by decide) rfl (fun ls hl => ?_)
  refine lv_iload_n hx hb d_J_bitCount_48 rfl (lv_at hl 0 rfl) ?_
  refine lv_bipush (v := 63) hx hb d_J_bitCount_49 (by decide) ?_
  refine lv_iand hx hb d_J_bitCount_51 ?_
  exact W.iret (v := (v5 &&& 63)) hx hb hr (fun t h9 _ => ⟨congrArg (fun z => Outcome.returned (some (Value.int z))) (by subst e1; subst e2; subst e3; subst e4; subst e5; rfl), h9⟩) (fun _ h => nomatch h) d_J_bitCount_52
set_option maxHeartbeats 4000000 in
set_option maxRecDepth 100000 in
theorem c_P_shorter_no (l : Launch) (G : GT) (H : Heap) (a : Nat) (d1 : Nat) (d2 : Nat) (v1 : Nat) (v2 : Nat) (v3 : Nat) (o1 : Nat) (t1 : Nat) (sd : Int64) (k : Int32) (n : Nat) (fb : Int32) (f : Nat → Int64) (g : Nat → Int32) (h : Nat → Int32) (q : Nat) (ns : Int64) (lb : Int32) (hP : va_P G.1 classes [(a, .inr (0, [.ref d1, .ref v1, .ref o1, .ref t1, .long ns, .int lb])), (d1, .inr (1, [.ref d2, .long sd, .int k, .int (nI n), .int fb])), (d2, .inl (G.2.1, 16, .inr (.inl f))), (v1, .inr (2, [.ref v2, .ref v3, .int (nI q)])), (v2, .inl (G.2.2.1, 100, .inl g)), (v3, .inl (G.2.2.2, 100, .inl h))] H) (hn : n ≤ 16) (hq : q ≤ 100) (hE : ¬ fn_D_isEmpty n = 0) : Met l y_P_shorter (Cond.code y_P_shorter b_P_shorter 1 (some .int) :: TG) ({ frames := 1, cells := 0, slots := 0, locals := 20 }) (PC G H [.ref a]) (QcRead (-13)) 0 0 (fun _ => False) := by
  refine Met.ofW (cc := b_P_shorter) (maxL := 1) (ret := (some .int)) (by decide) rfl ?_
  intro p e s m args below meth c s₁ B hml hv
  obtain ⟨rfl, hH, hKN⟩ := hv
  subst hH
  have hx := B.exec
  have hb := B.bytes
  have hr := B.returns
  have hts := atoms_spec (ws := (Cond.code y_P_shorter b_P_shorter 1 (some .int) :: TG)) B.pre
  have ht : ∀ w ∈ TG, w.before _ s = true := fun w h => hts w (List.mem_cons_of_mem _ h)
  have hown : s.vm.findClass R_P = some m.cls := findClass_of_methodNamed B.named
  have hlocks := B.notSynchronized
  have hK := hKN.1
  have hl := lv_entry ([.ref a]) (n := 1) (Nat.le_of_ble_eq_true rfl)
  rw [lg_entry_eq]
  generalize (lg_sl ([.ref a]) ++ List.replicate (1 - (lg_sl ([.ref a])).length) Slot.unset).toArray = ls at hl ⊢
  have hl : lv_has ls 1 [(0, .ref a)] := hl
  refine lv_aload_n hx hb d_P_shorter_0 rfl (lv_at hl 0 rfl) ?_
  refine va_get (D := G.1) (ci := 0) (v := .ref d1) (C := R_P) (T := F_P) (N := 6) hx hb ht in_P hown hK hP 0 rfl rfl 0 (by decide) (ht _ kf_P_20) (fun _ h9 => h9) rfl d_P_shorter_1 ?_
  refine pr_i (ru_V (b := d1) (As := []) (rest := []) ⟨hx, hb, hml, hown, ht⟩ hKN (c_D_isEmpty l G _ d1 d2 sd k n fb f (hP.sub [1, 2] rfl) hn) kc_P_80 ⟨rfl, rfl⟩ ⟨Nat.le_of_ble_eq_true rfl, Nat.le_of_ble_eq_true rfl⟩ (va_recv hK hP (ci := 1) (q0 := 1) rfl rfl) rfl hl.1 rfl (Nat.le_of_ble_eq_true rfl) d_P_shorter_4 ⟨Nat.le_of_ble_eq_true rfl, Nat.le_of_ble_eq_true rfl⟩) ?_
  refine lv_if_eq (tgt := 13) hx hb d_P_shorter_7 (by decide) (fun c1 => ?_) (fun c1 => ?_)
  · exact absurd c1 hE
  · refine lv_bipush (v := (-13)) hx hb d_P_shorter_10 (by decide) ?_
    exact W.iret (v := (-13)) hx hb hr (fun t h9 _ => ⟨congrArg (fun z => Outcome.returned (some (Value.int z))) rfl, h9⟩) (fun _ h => nomatch h) d_P_shorter_12
def shN (n : Nat) (g h : Nat → Int32) (q : Nat) : Int32 := if fn_V_stayFor g h q (fn_D_allBits n) = 0 then fn_D_allBits n else la g h q 16 (fn_D_allBits n)
set_option maxHeartbeats 4000000 in
set_option maxRecDepth 100000 in
theorem c_P_shorter (l : Launch) (G : GT) (H : Heap) (a : Nat) (d1 : Nat) (d2 : Nat) (v1 : Nat) (v2 : Nat) (v3 : Nat) (o1 : Nat) (t1 : Nat) (sd : Int64) (k : Int32) (n : Nat) (fb : Int32) (f : Nat → Int64) (g : Nat → Int32) (h : Nat → Int32) (q : Nat) (ns : Int64) (lb : Int32) (hP : va_P G.1 classes [(a, .inr (0, [.ref d1, .ref v1, .ref o1, .ref t1, .long ns, .int lb])), (d1, .inr (1, [.ref d2, .long sd, .int k, .int (nI n), .int fb])), (d2, .inl (G.2.1, 16, .inr (.inl f))), (v1, .inr (2, [.ref v2, .ref v3, .int (nI q)])), (v2, .inl (G.2.2.1, 100, .inl g)), (v3, .inl (G.2.2.2, 100, .inl h))] H) (hD0 : va_D (fun _ => True) [(a, .inr (0, [.ref d1, .ref v1, .ref o1, .ref t1, .long ns, .int lb])), (d1, .inr (1, [.ref d2, .long sd, .int k, .int (nI n), .int fb])), (d2, .inl (G.2.1, 16, .inr (.inl f))), (v1, .inr (2, [.ref v2, .ref v3, .int (nI q)])), (v2, .inl (G.2.2.1, 100, .inl g)), (v3, .inl (G.2.2.2, 100, .inl h))]) (hn : n ≤ 16) (hq : q ≤ 100) (hE : fn_D_isEmpty n = 0) : Met l y_P_shorter (Cond.code y_P_shorter b_P_shorter 1 (some .int) :: TG) ({ frames := 5, cells := 0, slots := 0, locals := 109 }) (PC G H [.ref a]) (QMi G (fn_J_bitCount (shN n g h q)) [(a, .inr (0, [.ref d1, .ref v1, .ref o1, .ref t1, .long ns, .int (shN n g h q)])), (d1, .inr (1, [.ref d2, .long sd, .int k, .int (nI n), .int fb])), (d2, .inl (G.2.1, 16, .inr (.inl f))), (v1, .inr (2, [.ref v2, .ref v3, .int (nI q)])), (v2, .inl (G.2.2.1, 100, .inl g)), (v3, .inl (G.2.2.2, 100, .inl h))] (va_A [(a, .inr (0, [.ref d1, .ref v1, .ref o1, .ref t1, .long ns, .int lb])), (d1, .inr (1, [.ref d2, .long sd, .int k, .int (nI n), .int fb])), (d2, .inl (G.2.1, 16, .inr (.inl f))), (v1, .inr (2, [.ref v2, .ref v3, .int (nI q)])), (v2, .inl (G.2.2.1, 100, .inl g)), (v3, .inl (G.2.2.2, 100, .inl h))] H.size)) 0 0 (va_A [(a, .inr (0, [.ref d1, .ref v1, .ref o1, .ref t1, .long ns, .int lb])), (d1, .inr (1, [.ref d2, .long sd, .int k, .int (nI n), .int fb])), (d2, .inl (G.2.1, 16, .inr (.inl f))), (v1, .inr (2, [.ref v2, .ref v3, .int (nI q)])), (v2, .inl (G.2.2.1, 100, .inl g)), (v3, .inl (G.2.2.2, 100, .inl h))] H.size) := by
  refine Met.ofW (cc := b_P_shorter) (maxL := 1) (ret := (some .int)) (by decide) rfl ?_
  intro p e s m args below meth c s₁ B hml hv
  obtain ⟨rfl, hH, hKN⟩ := hv
  subst hH
  have hx := B.exec
  have hb := B.bytes
  have hr := B.returns
  have hts := atoms_spec (ws := (Cond.code y_P_shorter b_P_shorter 1 (some .int) :: TG)) B.pre
  have ht : ∀ w ∈ TG, w.before _ s = true := fun w h => hts w (List.mem_cons_of_mem _ h)
  have hown : s.vm.findClass R_P = some m.cls := findClass_of_methodNamed B.named
  have hlocks := B.notSynchronized
  have hK := hKN.1
  have hl := lv_entry ([.ref a]) (n := 1) (Nat.le_of_ble_eq_true rfl)
  rw [lg_entry_eq]
  generalize (lg_sl ([.ref a]) ++ List.replicate (1 - (lg_sl ([.ref a])).length) Slot.unset).toArray = ls at hl ⊢
  have hl : lv_has ls 1 [(0, .ref a)] := hl
  have hD := hD0.self (sz := s.heap.size)
  generalize hAe : va_A [(a, .inr (0, [.ref d1, .ref v1, .ref o1, .ref t1, .long ns, .int lb])), (d1, .inr (1, [.ref d2, .long sd, .int k, .int (nI n), .int fb])), (d2, .inl (G.2.1, 16, .inr (.inl f))), (v1, .inr (2, [.ref v2, .ref v3, .int (nI q)])), (v2, .inl (G.2.2.1, 100, .inl g)), (v3, .inl (G.2.2.2, 100, .inl h))] s.heap.size = A at hD ⊢
  have hA : ∀ q : Nat, s.heap.size ≤ q → A q := fun q h => by rw [← hAe]; exact Or.inr h
  have hS : va_S A s.heap s.heap [] := va_S.rf
  refine lv_aload_n hx hb d_P_shorter_0 rfl (lv_at hl 0 rfl) ?_
  refine va_get (D := G.1) (ci := 0) (v := .ref d1) (C := R_P) (T := F_P) (N := 6) hx hb ht in_P hown hK hP 0 rfl rfl 0 (by decide) (ht _ kf_P_20) (fun _ h9 => h9) rfl d_P_shorter_1 ?_
  refine pr_i (ru_V (b := d1) (As := []) (rest := []) ⟨hx, hb, hml, hown, ht⟩ hKN (c_D_isEmpty l G _ d1 d2 sd k n fb f (hP.sub [1, 2] rfl) hn) kc_P_80 ⟨rfl, rfl⟩ ⟨Nat.le_of_ble_eq_true rfl, Nat.le_of_ble_eq_true rfl⟩ (va_recv hK hP (ci := 1) (q0 := 1) rfl rfl) rfl hl.1 rfl (Nat.le_of_ble_eq_true rfl) d_P_shorter_4 ⟨Nat.le_of_ble_eq_true rfl, Nat.le_of_ble_eq_true rfl⟩) ?_
  refine lv_if_eq (tgt := 13) hx hb d_P_shorter_7 (by decide) (fun c1 => ?_) (fun c1 => ?_)
  · refine lv_aload_n hx hb d_P_shorter_13 rfl (lv_at hl 0 rfl) ?_
    refine lv_aload_n hx hb d_P_shorter_14 rfl (lv_at hl 0 rfl) ?_
    refine va_get (D := G.1) (ci := 0) (v := .ref d1) (C := R_P) (T := F_P) (N := 6) hx hb ht in_P hown hK hP 0 rfl rfl 0 (by decide) (ht _ kf_P_20) (fun _ h9 => h9) rfl d_P_shorter_15 ?_
    refine pr_i (ru_V (b := d1) (As := []) (rest := [.ref a]) ⟨hx, hb, hml, hown, ht⟩ hKN (c_D_allBits l G _ d1 d2 sd k n fb f (hP.sub [1, 2] rfl) hn) kc_P_45 ⟨rfl, rfl⟩ ⟨Nat.le_of_ble_eq_true rfl, Nat.le_of_ble_eq_true rfl⟩ (va_recv hK hP (ci := 1) (q0 := 1) rfl rfl) rfl hl.1 rfl (Nat.le_of_ble_eq_true rfl) d_P_shorter_18 ⟨Nat.le_of_ble_eq_true rfl, Nat.le_of_ble_eq_true rfl⟩) ?_
    refine va_put (D := G.1) (ci := 0) (v := .int (fn_D_allBits n)) (ty := .int) (C := R_P) (T := F_P) (N := 6) hx hb ht in_P t_P tk_P n_P hown hK hP hD hS 0 rfl rfl 5 (by decide) (ht _ kf_P_13) (fun _ h9 => h9) rfl (by decide +kernel) rfl rfl (Nat.le_of_ble_eq_true rfl) d_P_shorter_21 (fun H locs hP hD hS => ?_)
    have hP : va_P G.1 classes [(a, .inr (0, [.ref d1, .ref v1, .ref o1, .ref t1, .long ns, .int (fn_D_allBits n)])), (d1, .inr (1, [.ref d2, .long sd, .int k, .int (nI n), .int fb])), (d2, .inl (G.2.1, 16, .inr (.inl f))), (v1, .inr (2, [.ref v2, .ref v3, .int (nI q)])), (v2, .inl (G.2.2.1, 100, .inl g)), (v3, .inl (G.2.2.2, 100, .inl h))] H := hP
    have hD : va_D A [(a, .inr (0, [.ref d1, .ref v1, .ref o1, .ref t1, .long ns, .int (fn_D_allBits n)])), (d1, .inr (1, [.ref d2, .long sd, .int k, .int (nI n), .int fb])), (d2, .inl (G.2.1, 16, .inr (.inl f))), (v1, .inr (2, [.ref v2, .ref v3, .int (nI q)])), (v2, .inl (G.2.2.1, 100, .inl g)), (v3, .inl (G.2.2.2, 100, .inl h))] := hD
    refine lv_aload_n hx hb d_P_shorter_24 rfl (lv_at hl 0 rfl) ?_
    refine va_get (D := G.1) (ci := 0) (v := .ref v1) (C := R_P) (T := F_P) (N := 6) hx hb ht in_P hown hK hP 0 rfl rfl 1 (by decide) (ht _ kf_P_33) (fun _ h9 => h9) rfl d_P_shorter_25 ?_
    refine lv_aload_n hx hb d_P_shorter_28 rfl (lv_at hl 0 rfl) ?_
    refine va_get (D := G.1) (ci := 0) (v := .int (fn_D_allBits n)) (C := R_P) (T := F_P) (N := 6) hx hb ht in_P hown hK hP 0 rfl rfl 5 (by decide) (ht _ kf_P_13) (fun _ h9 => h9) rfl d_P_shorter_29 ?_
    refine pr_i (ru_V (b := v1) (As := [.int (fn_D_allBits n)]) (rest := []) ⟨hx, hb, hml, hown, ht⟩ hKN (c_V_stayFor l G _ v1 v2 v3 g h q (fn_D_allBits n) (hP.sub [3, 4, 5] rfl) hq) kc_P_89 ⟨rfl, rfl⟩ ⟨Nat.le_of_ble_eq_true rfl, Nat.le_of_ble_eq_true rfl⟩ (va_recv hK hP (ci := 2) (q0 := 3) rfl rfl) rfl hl.1 rfl (Nat.le_of_ble_eq_true rfl) d_P_shorter_32 ⟨Nat.le_of_ble_eq_true rfl, Nat.le_of_ble_eq_true rfl⟩) ?_
    refine lv_if_eq (tgt := 42) hx hb d_P_shorter_35 (by decide) (fun c2 => ?_) (fun c2 => ?_)
    · refine lv_aload_n hx hb d_P_shorter_42 rfl (lv_at hl 0 rfl) ?_
      refine va_get (D := G.1) (ci := 0) (v := .int (fn_D_allBits n)) (C := R_P) (T := F_P) (N := 6) hx hb ht in_P hown hK hP 0 rfl rfl 5 (by decide) (ht _ kf_P_13) (fun _ h9 => h9) rfl d_P_shorter_43 ?_
      refine pr_i (ru_S (As := [.int (fn_D_allBits n)]) (rest := []) ⟨hx, hb, hml, hown, ht⟩ hKN (c_J_bitCount l G _ (fn_D_allBits n)) kc_P_95 ⟨rfl, rfl⟩ ⟨Nat.le_of_ble_eq_true rfl, Nat.le_of_ble_eq_true rfl⟩ rfl hl.1 rfl (Nat.le_of_ble_eq_true rfl) d_P_shorter_46 ⟨Nat.le_of_ble_eq_true rfl, Nat.le_of_ble_eq_true rfl⟩) ?_
      have e9 : shN n g h q = _ := (by unfold shN; rw [if_pos c2])
      exact W.iret (v := (fn_J_bitCount (fn_D_allBits n))) hx hb hr (fun t h9 _ => ⟨⟨(fn_J_bitCount (fn_D_allBits n)), (), rfl, (by rw [e9]), by show va_P _ _ _ t.heap; rw [h9]; exact (by rw [e9]; exact hP)⟩, hS.F h9⟩) hS.2.2 d_P_shorter_49
    · refine lv_aload_n hx hb d_P_shorter_38 rfl (lv_at hl 0 rfl) ?_
      refine mu_v (wr := []) (wn := [(a, .inr (0, [.ref d1, .ref v1, .ref o1, .ref t1, .long ns, .int (la g h q 16 (fn_D_allBits n))])), (d1, .inr (1, [.ref d2, .long sd, .int k, .int (nI n), .int fb])), (d2, .inl (G.2.1, 16, .inr (.inl f))), (v1, .inr (2, [.ref v2, .ref v3, .int (nI q)])), (v2, .inl (G.2.2.1, 100, .inl g)), (v3, .inl (G.2.2.2, 100, .inl h))]) (ru_V (b := a) (As := []) (rest := []) ⟨hx, hb, hml, hown, ht⟩ hKN (c_P_leaveOutAll l G _ a d1 d2 v1 v2 v3 o1 t1 sd k n fb f g h q ns (fn_D_allBits n) (hP.sub [0, 1, 2, 3, 4, 5] rfl) ((hD.sub (ws' := [(a, .inr (0, [.ref d1, .ref v1, .ref o1, .ref t1, .long ns, .int (fn_D_allBits n)])), (d1, .inr (1, [.ref d2, .long sd, .int k, .int (nI n), .int fb])), (d2, .inl (G.2.1, 16, .inr (.inl f))), (v1, .inr (2, [.ref v2, .ref v3, .int (nI q)])), (v2, .inl (G.2.2.1, 100, .inl g)), (v3, .inl (G.2.2.2, 100, .inl h))]) [0, 1, 2, 3, 4, 5] (by decide) rfl).weaken (fun _ _ _ _ => trivial)) hn hq) kc_P_92 ⟨rfl, rfl⟩ ⟨Nat.le_of_ble_eq_true rfl, Nat.le_of_ble_eq_true rfl⟩ (va_recv hK hP (ci := 0) (q0 := 0) rfl rfl) rfl hl.1 rfl (Nat.le_of_ble_eq_true rfl) d_P_shorter_39 ⟨Nat.le_of_ble_eq_true rfl, Nat.le_of_ble_eq_true rfl⟩) hP hD hS hA [0, 1, 2, 3, 4, 5] [] [0, 1, 2, 3, 4, 5] rfl rfl ⟨by decide, by decide, by decide⟩ (by decide) rfl rfl (fun H locs hP hD hS => ?_)
      refine lv_aload_n hx hb d_P_shorter_42 rfl (lv_at hl 0 rfl) ?_
      refine va_get (D := G.1) (ci := 0) (v := .int (la g h q 16 (fn_D_allBits n))) (C := R_P) (T := F_P) (N := 6) hx hb ht in_P hown hK hP 0 rfl rfl 5 (by decide) (ht _ kf_P_13) (fun _ h9 => h9) rfl d_P_shorter_43 ?_
      refine pr_i (ru_S (As := [.int (la g h q 16 (fn_D_allBits n))]) (rest := []) ⟨hx, hb, hml, hown, ht⟩ hKN (c_J_bitCount l G _ (la g h q 16 (fn_D_allBits n))) kc_P_95 ⟨rfl, rfl⟩ ⟨Nat.le_of_ble_eq_true rfl, Nat.le_of_ble_eq_true rfl⟩ rfl hl.1 rfl (Nat.le_of_ble_eq_true rfl) d_P_shorter_46 ⟨Nat.le_of_ble_eq_true rfl, Nat.le_of_ble_eq_true rfl⟩) ?_
      have e9 : shN n g h q = _ := (by unfold shN; rw [if_neg c2])
      exact W.iret (v := (fn_J_bitCount (la g h q 16 (fn_D_allBits n)))) hx hb hr (fun t h9 _ => ⟨⟨(fn_J_bitCount (la g h q 16 (fn_D_allBits n))), (), rfl, (by rw [e9]), by show va_P _ _ _ t.heap; rw [h9]; exact (by rw [e9]; exact hP)⟩, hS.F h9⟩) hS.2.2 d_P_shorter_49
  · exact absurd hE c1
