def fn_P_noise (sd : Int64) (p1 : Int32) (p2 : Int32) (p3 : Int32) : Int32 := (((((2 * ((((zN sd (5 + p1) ((12 * p3) + p2)).toUInt64 >>> ((1 : Int32).toInt64.toUInt64 &&& Int64.toUInt64 63)).toInt64) - (((zN sd (5 + p1) ((12 * p3) + p2)).toUInt64 >>> ((1 : Int32).toInt64.toUInt64 &&& Int64.toUInt64 63)).toInt64) / 33 * 33)) + ((zN sd (5 + p1) ((12 * p3) + p2)) &&& 1)) - ((2 * ((((zN sd (5 + p1) ((12 * p3) + p2)).toUInt64 >>> ((1 : Int32).toInt64.toUInt64 &&& Int64.toUInt64 63)).toInt64) - (((zN sd (5 + p1) ((12 * p3) + p2)).toUInt64 >>> ((1 : Int32).toInt64.toUInt64 &&& Int64.toUInt64 63)).toInt64) / 33 * 33)) + ((zN sd (5 + p1) ((12 * p3) + p2)) &&& 1)) / 33 * 33).toInt32) - 16)
set_option maxHeartbeats 4000000 in
set_option maxRecDepth 100000 in
theorem c_P_noise (l : Launch) (G : GT) (H : Heap) (sd : Int64) (p1 : Int32) (p2 : Int32) (p3 : Int32) : Met l y_P_noise (Cond.code y_P_noise b_P_noise 9 (some .int) :: TG) ({ frames := 1, cells := 0, slots := 0, locals := 25 }) (PC G H [.long sd, .int p1, .int p2, .int p3]) (QcRead (fn_P_noise sd p1 p2 p3)) 0 0 (fun _ => False) := by
  refine Met.ofW (cc := b_P_noise) (maxL := 9) (ret := (some .int)) (by decide) rfl ?_
  intro p e s m args below meth c s₁ B hml hv
  obtain ⟨rfl, hH, hKN⟩ := hv
  subst hH
  have hx := B.exec
  have hb := B.bytes
  have hr := B.returns
  have hts := atoms_spec (ws := (Cond.code y_P_noise b_P_noise 9 (some .int) :: TG)) B.pre
  have ht : ∀ w ∈ TG, w.before _ s = true := fun w h => hts w (List.mem_cons_of_mem _ h)
  have hown : s.vm.findClass R_P = some m.cls := findClass_of_methodNamed B.named
  have hlocks := B.notSynchronized
  have hK := hKN.1
  have hl := lv_entry ([.long sd, .int p1, .int p2, .int p3]) (n := 9) (Nat.le_of_ble_eq_true rfl)
  rw [lg_entry_eq]
  generalize (lg_sl ([.long sd, .int p1, .int p2, .int p3]) ++ List.replicate (9 - (lg_sl ([.long sd, .int p1, .int p2, .int p3])).length) Slot.unset).toArray = ls at hl ⊢
  have hl : lv_has ls 9 [(0, .long sd), (2, .int p1), (3, .int p2), (4, .int p3)] := hl
  refine lv_lload_n hx hb d_P_noise_0 rfl (lv_at hl 0 rfl) ?_
  refine lv_iconst (v := 5) hx hb d_P_noise_1 (by decide) ?_
  refine lv_iload_n hx hb d_P_noise_2 rfl (lv_at hl 1 rfl) ?_
  refine lv_iadd hx hb d_P_noise_3 ?_
  refine lv_bipush (v := 12) hx hb d_P_noise_4 (by decide) ?_
  refine lv_iload hx hb d_P_noise_6 (lv_at hl 3 rfl) ?_
  refine lv_imul hx hb d_P_noise_8 ?_
  refine lv_iload_n hx hb d_P_noise_9 rfl (lv_at hl 2 rfl) ?_
  refine lv_iadd hx hb d_P_noise_10 ?_
  refine pr_l (ru_S (As := [.long sd, .int (5 + p1), .int ((12 * p3) + p2)]) (rest := []) ⟨hx, hb, hml, hown, ht⟩ hKN (c_P_number l G _ sd (5 + p1) ((12 * p3) + p2)) kc_P_115 ⟨rfl, rfl⟩ ⟨Nat.le_of_ble_eq_true rfl, Nat.le_of_ble_eq_true rfl⟩ rfl hl.1 rfl (Nat.le_of_ble_eq_true rfl) d_P_noise_11 ⟨Nat.le_of_ble_eq_true rfl, Nat.le_of_ble_eq_true rfl⟩) ?_
  refine lv_lstore (lv' := [(5, .long (zN sd (5 + p1) ((12 * p3) + p2))), (0, .long sd), (2, .int p1), (3, .int p2), (4, .int p3)]) hx hb d_P_noise_14 hl (by decide) rfl (fun ls hl => ?_)
  refine lv_ldc2 (v := 2) hx hb hown (ht _ kl_P_119) d_P_noise_16 ?_
  refine lv_lload hx hb d_P_noise_19 (lv_at hl 0 rfl) ?_
  refine lv_iconst (v := 1) hx hb d_P_noise_21 (by decide) ?_
  refine lv_lushr hx hb d_P_noise_22 rfl ?_
  refine lv_ldc2 (v := 33) hx hb hown (ht _ kl_P_121) d_P_noise_23 ?_
  refine lv_lrem hx hb d_P_noise_26 (by decide) ?_
  refine lv_lmul hx hb d_P_noise_27 ?_
  refine lv_lload hx hb d_P_noise_28 (lv_at hl 0 rfl) ?_
  refine lv_lconst (v := 1) hx hb d_P_noise_30 (by decide) ?_
  refine lv_land hx hb d_P_noise_31 ?_
  refine lv_ladd hx hb d_P_noise_32 ?_
  refine lv_ldc2 (v := 33) hx hb hown (ht _ kl_P_121) d_P_noise_33 ?_
  refine lv_lrem hx hb d_P_noise_36 (by decide) ?_
  refine lv_lstore (lv' := [(7, .long (((2 * ((((zN sd (5 + p1) ((12 * p3) + p2)).toUInt64 >>> ((1 : Int32).toInt64.toUInt64 &&& Int64.toUInt64 63)).toInt64) - (((zN sd (5 + p1) ((12 * p3) + p2)).toUInt64 >>> ((1 : Int32).toInt64.toUInt64 &&& Int64.toUInt64 63)).toInt64) / 33 * 33)) + ((zN sd (5 + p1) ((12 * p3) + p2)) &&& 1)) - ((2 * ((((zN sd (5 + p1) ((12 * p3) + p2)).toUInt64 >>> ((1 : Int32).toInt64.toUInt64 &&& Int64.toUInt64 63)).toInt64) - (((zN sd (5 + p1) ((12 * p3) + p2)).toUInt64 >>> ((1 : Int32).toInt64.toUInt64 &&& Int64.toUInt64 63)).toInt64) / 33 * 33)) + ((zN sd (5 + p1) ((12 * p3) + p2)) &&& 1)) / 33 * 33)), (5, .long (zN sd (5 + p1) ((12 * p3) + p2))), (0, .long sd), (2, .int p1), (3, .int p2), (4, .int p3)]) hx hb d_P_noise_37 hl (by decide) rfl (fun ls hl => ?_)
  refine lv_lload hx hb d_P_noise_39 (lv_at hl 0 rfl) ?_
  refine lv_l2i hx hb d_P_noise_41 rfl ?_
  refine lv_bipush (v := 16) hx hb d_P_noise_42 (by decide) ?_
  refine lv_isub hx hb d_P_noise_44 ?_
  exact W.iret (v := (((((2 * ((((zN sd (5 + p1) ((12 * p3) + p2)).toUInt64 >>> ((1 : Int32).toInt64.toUInt64 &&& Int64.toUInt64 63)).toInt64) - (((zN sd (5 + p1) ((12 * p3) + p2)).toUInt64 >>> ((1 : Int32).toInt64.toUInt64 &&& Int64.toUInt64 63)).toInt64) / 33 * 33)) + ((zN sd (5 + p1) ((12 * p3) + p2)) &&& 1)) - ((2 * ((((zN sd (5 + p1) ((12 * p3) + p2)).toUInt64 >>> ((1 : Int32).toInt64.toUInt64 &&& Int64.toUInt64 63)).toInt64) - (((zN sd (5 + p1) ((12 * p3) + p2)).toUInt64 >>> ((1 : Int32).toInt64.toUInt64 &&& Int64.toUInt64 63)).toInt64) / 33 * 33)) + ((zN sd (5 + p1) ((12 * p3) + p2)) &&& 1)) / 33 * 33).toInt32) - 16)) hx hb hr (fun t h9 _ => ⟨congrArg (fun z => Outcome.returned (some (Value.int z))) rfl, h9⟩) (fun _ h => nomatch h) d_P_noise_45
theorem ink_in {x : Int32} (h1 : ¬ x < 0) (h2 : x < 10) : vp_in x 10 := by
  obtain ⟨j, hj, rfl⟩ := nI_of h1
  exact vp_in_nI ((nI_ltI hj (show 10 < 2 ^ 31 by omega)).mp h2) (by omega)
def fn_P_isInked (p1 : Int32) (p2 : Int32) (p3 : Int32) : Int32 := (if p1 < 0 then 0 else (if p1 < 10 then (if (((sgn p1.toNatClampNeg) >>> ((14 - ((3 * (p3 / 4)) + (p2 / 4))) &&& 31)) &&& 1) = 0 then 0 else 1) else 0))
set_option maxHeartbeats 4000000 in
set_option maxRecDepth 100000 in
theorem c_P_isInked (l : Launch) (G : GT) (H : Heap) (tt : Nat) (p1 : Int32) (p2 : Int32) (p3 : Int32) : Met l y_P_isInked (Cond.code y_P_isInked b_P_isInked 4 (some .boolean) :: TG) ({ frames := 0, cells := 0, slots := 0, locals := 0 }) (PCS G H tt [.int p1, .int p2, .int p3]) (QcRead (fn_P_isInked p1 p2 p3)) 0 0 (fun _ => False) := by
  refine Met.ofW (cc := b_P_isInked) (maxL := 4) (ret := (some .boolean)) (by decide) rfl ?_
  intro p e s m args below meth c s₁ B hml hv
  obtain ⟨rfl, hH, hKN, hST⟩ := hv
  subst hH
  have hx := B.exec
  have hb := B.bytes
  have hr := B.returns
  have hts := atoms_spec (ws := (Cond.code y_P_isInked b_P_isInked 4 (some .boolean) :: TG)) B.pre
  have ht : ∀ w ∈ TG, w.before _ s = true := fun w h => hts w (List.mem_cons_of_mem _ h)
  have hown : s.vm.findClass R_P = some m.cls := findClass_of_methodNamed B.named
  have hlocks := B.notSynchronized
  have hK := hKN.1
  have hl := lv_entry ([.int p1, .int p2, .int p3]) (n := 4) (Nat.le_of_ble_eq_true rfl)
  rw [lg_entry_eq]
  generalize (lg_sl ([.int p1, .int p2, .int p3]) ++ List.replicate (4 - (lg_sl ([.int p1, .int p2, .int p3])).length) Slot.unset).toArray = ls at hl ⊢
  have hl : lv_has ls 4 [(0, .int p1), (1, .int p2), (2, .int p3)] := hl
  have hS : va_S (fun _ => False) s.heap s.heap [] := va_S.rf
  refine lv_iload_n hx hb d_P_isInked_0 rfl (lv_at hl 0 rfl) ?_
  refine lv_if_lt (tgt := 12) hx hb d_P_isInked_1 (by decide) (fun c1 => ?_) (fun c1 => ?_)
  · refine lv_iconst (v := 0) hx hb d_P_isInked_12 (by decide) ?_
    exact W.zret (v := 0) hx hb hr rfl (fun t h9 _ => ⟨congrArg (fun z => Outcome.returned (some (Value.int z))) (by unfold fn_P_isInked; rw [if_pos c1]), h9⟩) (fun _ h => nomatch h) d_P_isInked_13
  · refine lv_iload_n hx hb d_P_isInked_4 rfl (lv_at hl 0 rfl) ?_
    refine va_gets hx hb hST.1 hS hown (ht _ kf_P_111) (fun _ h9 => h9) d_P_isInked_5 ?_
    refine va_tlen (v := 10) hx hb hST.2 hS rfl d_P_isInked_8 ?_
    refine lv_icmp_lt (tgt := 14) hx hb d_P_isInked_9 (by decide) (fun c2 => ?_) (fun c2 => ?_)
    · refine lv_iconst (v := 3) hx hb d_P_isInked_14 (by decide) ?_
      refine lv_iload_n hx hb d_P_isInked_15 rfl (lv_at hl 2 rfl) ?_
      refine lv_iconst (v := 4) hx hb d_P_isInked_16 (by decide) ?_
      refine lv_idiv hx hb d_P_isInked_17 (by decide) ?_
      refine lv_imul hx hb d_P_isInked_18 ?_
      refine lv_iload_n hx hb d_P_isInked_19 rfl (lv_at hl 1 rfl) ?_
      refine lv_iconst (v := 4) hx hb d_P_isInked_20 (by decide) ?_
      refine lv_idiv hx hb d_P_isInked_21 (by decide) ?_
      refine lv_iadd hx hb d_P_isInked_22 ?_
      refine lv_istore_n (lv' := [(3, .int ((3 * (p3 / 4)) + (p2 / 4))), (0, .int p1), (1, .int p2), (2, .int p3)]) hx hb d_P_isInked_23 rfl hl (by decide) rfl (fun ls hl => ?_)
      refine va_gets hx hb hST.1 hS hown (ht _ kf_P_111) (fun _ h9 => h9) d_P_isInked_24 ?_
      refine lv_iload_n hx hb d_P_isInked_27 rfl (lv_at hl 1 rfl) ?_
      refine va_ti (v := .int (sgn p1.toNatClampNeg)) hx hb hST.2 hS (i := p1) (ink_in c1 c2) rfl d_P_isInked_28 ?_
      refine lv_bipush (v := 14) hx hb d_P_isInked_29 (by decide) ?_
      refine lv_iload_n hx hb d_P_isInked_31 rfl (lv_at hl 0 rfl) ?_
      refine lv_isub hx hb d_P_isInked_32 ?_
      refine lv_ishr hx hb d_P_isInked_33 ?_
      refine lv_iconst (v := 1) hx hb d_P_isInked_34 (by decide) ?_
      refine lv_iand hx hb d_P_isInked_35 ?_
      refine lv_if_eq (tgt := 43) hx hb d_P_isInked_36 (by decide) (fun c3 => ?_) (fun c3 => ?_)
      · refine lv_iconst (v := 0) hx hb d_P_isInked_43 (by decide) ?_
        exact W.zret (v := 0) hx hb hr rfl (fun t h9 _ => ⟨congrArg (fun z => Outcome.returned (some (Value.int z))) (by unfold fn_P_isInked; rw [if_neg c1, if_pos c2, if_pos c3]), h9⟩) (fun _ h => nomatch h) d_P_isInked_44
      · refine lv_iconst (v := 1) hx hb d_P_isInked_39 (by decide) ?_
        refine lv_goto (tgt := 44) hx hb d_P_isInked_40 (by decide) ?_
        exact W.zret (v := 1) hx hb hr rfl (fun t h9 _ => ⟨congrArg (fun z => Outcome.returned (some (Value.int z))) (by unfold fn_P_isInked; rw [if_neg c1, if_pos c2, if_neg c3]), h9⟩) (fun _ h => nomatch h) d_P_isInked_44
    · refine lv_iconst (v := 0) hx hb d_P_isInked_12 (by decide) ?_
      exact W.zret (v := 0) hx hb hr rfl (fun t h9 _ => ⟨congrArg (fun z => Outcome.returned (some (Value.int z))) (by unfold fn_P_isInked; rw [if_neg c1, if_neg c2]), h9⟩) (fun _ h => nomatch h) d_P_isInked_13
def fn_P_point (sd : Int64) (k : Int32) (n : Nat) (f : Nat → Int64) (p1 : Int32) (p2 : Int32) (p3 : Int32) : Int32 := (if k = 1 then (if (fn_D_has n p1) = 0 then (-1) else (if p2 < 0 then (-1) else (if 12 ≤ p2 then (-1) else (if p3 < 0 then (-1) else (if p3 < 20 then (if (fn_P_isInked ((fn_D_fact n f p1 1) - (fn_D_fact n f p1 1) / 10 * 10) p2 p3) = 0 then (200 + (fn_P_noise sd p1 p2 p3)) else (40 + (fn_P_noise sd p1 p2 p3))) else (-1)))))) else (-1))
set_option maxHeartbeats 4000000 in
set_option maxRecDepth 100000 in
theorem c_P_point (l : Launch) (G : GT) (H : Heap) (tt : Nat) (a : Nat) (d1 : Nat) (d2 : Nat) (v1 : Nat) (v2 : Nat) (v3 : Nat) (o1 : Nat) (t1 : Nat) (sd : Int64) (k : Int32) (n : Nat) (fb : Int32) (f : Nat → Int64) (g : Nat → Int32) (h : Nat → Int32) (q : Nat) (ns : Int64) (lb : Int32) (p1 : Int32) (p2 : Int32) (p3 : Int32) (hP : va_P G.1 classes [(a, .inr (0, [.ref d1, .ref v1, .ref o1, .ref t1, .long ns, .int lb])), (d1, .inr (1, [.ref d2, .long sd, .int k, .int (nI n), .int fb])), (d2, .inl (G.2.1, 16, .inr (.inl f))), (v1, .inr (2, [.ref v2, .ref v3, .int (nI q)])), (v2, .inl (G.2.2.1, 100, .inl g)), (v3, .inl (G.2.2.2, 100, .inl h))] H) (hn : n ≤ 16) (hq : q ≤ 100) : Met l y_P_point (Cond.code y_P_point b_P_point 5 (some .int) :: TG) ({ frames := 2, cells := 0, slots := 0, locals := 53 }) (PCS G H tt [.ref a, .int p1, .int p2, .int p3]) (QcRead (fn_P_point sd k n f p1 p2 p3)) 0 0 (fun _ => False) := by
  refine Met.ofW (cc := b_P_point) (maxL := 5) (ret := (some .int)) (by decide) rfl ?_
  intro p e s m args below meth c s₁ B hml hv
  obtain ⟨rfl, hH, hKN, hST⟩ := hv
  subst hH
  have hx := B.exec
  have hb := B.bytes
  have hr := B.returns
  have hts := atoms_spec (ws := (Cond.code y_P_point b_P_point 5 (some .int) :: TG)) B.pre
  have ht : ∀ w ∈ TG, w.before _ s = true := fun w h => hts w (List.mem_cons_of_mem _ h)
  have hown : s.vm.findClass R_P = some m.cls := findClass_of_methodNamed B.named
  have hlocks := B.notSynchronized
  have hK := hKN.1
  have hl := lv_entry ([.ref a, .int p1, .int p2, .int p3]) (n := 5) (Nat.le_of_ble_eq_true rfl)
  rw [lg_entry_eq]
  generalize (lg_sl ([.ref a, .int p1, .int p2, .int p3]) ++ List.replicate (5 - (lg_sl ([.ref a, .int p1, .int p2, .int p3])).length) Slot.unset).toArray = ls at hl ⊢
  have hl : lv_has ls 5 [(0, .ref a), (1, .int p1), (2, .int p2), (3, .int p3)] := hl
  refine lv_aload_n hx hb d_P_point_0 rfl (lv_at hl 0 rfl) ?_
  refine va_get (D := G.1) (ci := 0) (v := .ref d1) (C := R_P) (T := F_P) (N := 6) hx hb ht in_P hown hK hP 0 rfl rfl 0 (by decide) (ht _ kf_P_20) (fun _ h9 => h9) rfl d_P_point_1 ?_
  refine va_getN (D := G.1) (ci := 1) (v := .int k) (C := R_D) (T := F_D) (N := 5) hx hb ht in_D hown hK hP 1 rfl rfl 2 (by decide) (va_Nw.use rfl (hKN.2 _ kn_P_66 rfl)) (fun _ h9 => h9) rfl d_P_point_4 ?_
  refine lv_iconst (v := 1) hx hb d_P_point_7 (by decide) ?_
  refine lv_icmp_ne (tgt := 22) hx hb d_P_point_8 (by decide) (fun c1 => ?_) (fun c1 => ?_)
  · refine lv_iconst (v := (-1)) hx hb d_P_point_22 (by decide) ?_
    exact W.iret (v := (-1)) hx hb hr (fun t h9 _ => ⟨congrArg (fun z => Outcome.returned (some (Value.int z))) (by unfold fn_P_point; rw [if_neg c1]), h9⟩) (fun _ h => nomatch h) d_P_point_23
  · refine lv_aload_n hx hb d_P_point_11 rfl (lv_at hl 0 rfl) ?_
    refine va_get (D := G.1) (ci := 0) (v := .ref d1) (C := R_P) (T := F_P) (N := 6) hx hb ht in_P hown hK hP 0 rfl rfl 0 (by decide) (ht _ kf_P_20) (fun _ h9 => h9) rfl d_P_point_12 ?_
    refine lv_iload_n hx hb d_P_point_15 rfl (lv_at hl 1 rfl) ?_
    refine pr_i (ru_V (b := d1) (As := [.int p1]) (rest := []) ⟨hx, hb, hml, hown, ht⟩ hKN (c_D_has l G _ d1 d2 sd k n fb f p1 (hP.sub [1, 2] rfl) hn) kc_P_55 ⟨rfl, rfl⟩ ⟨Nat.le_of_ble_eq_true rfl, Nat.le_of_ble_eq_true rfl⟩ (va_recv hK hP (ci := 1) (q0 := 1) rfl rfl) rfl hl.1 rfl (Nat.le_of_ble_eq_true rfl) d_P_point_16 ⟨Nat.le_of_ble_eq_true rfl, Nat.le_of_ble_eq_true rfl⟩) ?_
    refine lv_if_ne (tgt := 24) hx hb d_P_point_19 (by decide) (fun c2 => ?_) (fun c2 => ?_)
    · refine lv_iload_n hx hb d_P_point_24 rfl (lv_at hl 2 rfl) ?_
      refine lv_if_lt (tgt := 44) hx hb d_P_point_25 (by decide) (fun c3 => ?_) (fun c3 => ?_)
      · refine lv_iconst (v := (-1)) hx hb d_P_point_44 (by decide) ?_
        exact W.iret (v := (-1)) hx hb hr (fun t h9 _ => ⟨congrArg (fun z => Outcome.returned (some (Value.int z))) (by unfold fn_P_point; rw [if_pos c1, if_neg c2, if_pos c3]), h9⟩) (fun _ h => nomatch h) d_P_point_45
      · refine lv_iload_n hx hb d_P_point_28 rfl (lv_at hl 2 rfl) ?_
        refine lv_bipush (v := 12) hx hb d_P_point_29 (by decide) ?_
        refine lv_icmp_ge (tgt := 44) hx hb d_P_point_31 (by decide) (fun c4 => ?_) (fun c4 => ?_)
        · refine lv_iconst (v := (-1)) hx hb d_P_point_44 (by decide) ?_
          exact W.iret (v := (-1)) hx hb hr (fun t h9 _ => ⟨congrArg (fun z => Outcome.returned (some (Value.int z))) (by unfold fn_P_point; rw [if_pos c1, if_neg c2, if_neg c3, if_pos c4]), h9⟩) (fun _ h => nomatch h) d_P_point_45
        · refine lv_iload_n hx hb d_P_point_34 rfl (lv_at hl 3 rfl) ?_
          refine lv_if_lt (tgt := 44) hx hb d_P_point_35 (by decide) (fun c5 => ?_) (fun c5 => ?_)
          · refine lv_iconst (v := (-1)) hx hb d_P_point_44 (by decide) ?_
            exact W.iret (v := (-1)) hx hb hr (fun t h9 _ => ⟨congrArg (fun z => Outcome.returned (some (Value.int z))) (by unfold fn_P_point; rw [if_pos c1, if_neg c2, if_neg c3, if_neg c4, if_pos c5]), h9⟩) (fun _ h => nomatch h) d_P_point_45
          · refine lv_iload_n hx hb d_P_point_38 rfl (lv_at hl 3 rfl) ?_
            refine lv_bipush (v := 20) hx hb d_P_point_39 (by decide) ?_
            refine lv_icmp_lt (tgt := 46) hx hb d_P_point_41 (by decide) (fun c6 => ?_) (fun c6 => ?_)
            · refine lv_aload_n hx hb d_P_point_46 rfl (lv_at hl 0 rfl) ?_
              refine va_get (D := G.1) (ci := 0) (v := .ref d1) (C := R_P) (T := F_P) (N := 6) hx hb ht in_P hown hK hP 0 rfl rfl 0 (by decide) (ht _ kf_P_20) (fun _ h9 => h9) rfl d_P_point_47 ?_
              refine lv_iload_n hx hb d_P_point_50 rfl (lv_at hl 1 rfl) ?_
              refine lv_iconst (v := 1) hx hb d_P_point_51 (by decide) ?_
              refine pr_i (ru_V (b := d1) (As := [.int p1, .int 1]) (rest := []) ⟨hx, hb, hml, hown, ht⟩ hKN (c_D_fact l G _ d1 d2 sd k n fb f p1 1 (hP.sub [1, 2] rfl) hn) kc_P_62 ⟨rfl, rfl⟩ ⟨Nat.le_of_ble_eq_true rfl, Nat.le_of_ble_eq_true rfl⟩ (va_recv hK hP (ci := 1) (q0 := 1) rfl rfl) rfl hl.1 rfl (Nat.le_of_ble_eq_true rfl) d_P_point_52 ⟨Nat.le_of_ble_eq_true rfl, Nat.le_of_ble_eq_true rfl⟩) ?_
              refine lv_bipush (v := 10) hx hb d_P_point_55 (by decide) ?_
              refine lv_irem hx hb d_P_point_57 (by decide) ?_
              refine lv_iload_n hx hb d_P_point_58 rfl (lv_at hl 2 rfl) ?_
              refine lv_iload_n hx hb d_P_point_59 rfl (lv_at hl 3 rfl) ?_
              refine pr_i (ru_SS (As := [.int ((fn_D_fact n f p1 1) - (fn_D_fact n f p1 1) / 10 * 10), .int p2, .int p3]) (rest := []) ⟨hx, hb, hml, hown, ht⟩ hKN hST (c_P_isInked l G _ tt ((fn_D_fact n f p1 1) - (fn_D_fact n f p1 1) / 10 * 10) p2 p3) kc_P_69 ⟨rfl, rfl⟩ ⟨Nat.le_of_ble_eq_true rfl, Nat.le_of_ble_eq_true rfl⟩ rfl hl.1 rfl (Nat.le_of_ble_eq_true rfl) d_P_point_60 ⟨Nat.le_of_ble_eq_true rfl, Nat.le_of_ble_eq_true rfl⟩) ?_
              refine lv_if_eq (tgt := 71) hx hb d_P_point_63 (by decide) (fun c7 => ?_) (fun c7 => ?_)
              · refine lv_sipush (v := 200) hx hb d_P_point_71 (by decide) ?_
                refine lv_istore (lv' := [(4, .int 200), (0, .ref a), (1, .int p1), (2, .int p2), (3, .int p3)]) hx hb d_P_point_74 hl (by decide) rfl (fun ls hl => ?_)
                refine lv_iload hx hb d_P_point_76 (lv_at hl 0 rfl) ?_
                refine lv_aload_n hx hb d_P_point_78 rfl (lv_at hl 1 rfl) ?_
                refine va_get (D := G.1) (ci := 0) (v := .ref d1) (C := R_P) (T := F_P) (N := 6) hx hb ht in_P hown hK hP 0 rfl rfl 0 (by decide) (ht _ kf_P_20) (fun _ h9 => h9) rfl d_P_point_79 ?_
                refine va_getN (D := G.1) (ci := 1) (v := .long sd) (C := R_D) (T := F_D) (N := 5) hx hb ht in_D hown hK hP 1 rfl rfl 1 (by decide) (va_Nw.use rfl (hKN.2 _ kn_P_73 rfl)) (fun _ h9 => h9) rfl d_P_point_82 ?_
                refine lv_iload_n hx hb d_P_point_85 rfl (lv_at hl 2 rfl) ?_
                refine lv_iload_n hx hb d_P_point_86 rfl (lv_at hl 3 rfl) ?_
                refine lv_iload_n hx hb d_P_point_87 rfl (lv_at hl 4 rfl) ?_
                refine pr_i (ru_S (As := [.long sd, .int p1, .int p2, .int p3]) (rest := [.int 200]) ⟨hx, hb, hml, hown, ht⟩ hKN (c_P_noise l G _ sd p1 p2 p3) kc_P_76 ⟨rfl, rfl⟩ ⟨Nat.le_of_ble_eq_true rfl, Nat.le_of_ble_eq_true rfl⟩ rfl hl.1 rfl (Nat.le_of_ble_eq_true rfl) d_P_point_88 ⟨Nat.le_of_ble_eq_true rfl, Nat.le_of_ble_eq_true rfl⟩) ?_
                refine lv_iadd hx hb d_P_point_91 ?_
                exact W.iret (v := (200 + (fn_P_noise sd p1 p2 p3))) hx hb hr (fun t h9 _ => ⟨congrArg (fun z => Outcome.returned (some (Value.int z))) (by unfold fn_P_point; rw [if_pos c1, if_neg c2, if_neg c3, if_neg c4, if_neg c5, if_pos c6, if_pos c7]), h9⟩) (fun _ h => nomatch h) d_P_point_92
              · refine lv_bipush (v := 40) hx hb d_P_point_66 (by decide) ?_
                refine lv_goto (tgt := 74) hx hb d_P_point_68 (by decide) ?_
                refine lv_istore (lv' := [(4, .int 40), (0, .ref a), (1, .int p1), (2, .int p2), (3, .int p3)]) hx hb d_P_point_74 hl (by decide) rfl (fun ls hl => ?_)
                refine lv_iload hx hb d_P_point_76 (lv_at hl 0 rfl) ?_
                refine lv_aload_n hx hb d_P_point_78 rfl (lv_at hl 1 rfl) ?_
                refine va_get (D := G.1) (ci := 0) (v := .ref d1) (C := R_P) (T := F_P) (N := 6) hx hb ht in_P hown hK hP 0 rfl rfl 0 (by decide) (ht _ kf_P_20) (fun _ h9 => h9) rfl d_P_point_79 ?_
                refine va_getN (D := G.1) (ci := 1) (v := .long sd) (C := R_D) (T := F_D) (N := 5) hx hb ht in_D hown hK hP 1 rfl rfl 1 (by decide) (va_Nw.use rfl (hKN.2 _ kn_P_73 rfl)) (fun _ h9 => h9) rfl d_P_point_82 ?_
                refine lv_iload_n hx hb d_P_point_85 rfl (lv_at hl 2 rfl) ?_
                refine lv_iload_n hx hb d_P_point_86 rfl (lv_at hl 3 rfl) ?_
                refine lv_iload_n hx hb d_P_point_87 rfl (lv_at hl 4 rfl) ?_
                refine pr_i (ru_S (As := [.long sd, .int p1, .int p2, .int p3]) (rest := [.int 40]) ⟨hx, hb, hml, hown, ht⟩ hKN (c_P_noise l G _ sd p1 p2 p3) kc_P_76 ⟨rfl, rfl⟩ ⟨Nat.le_of_ble_eq_true rfl, Nat.le_of_ble_eq_true rfl⟩ rfl hl.1 rfl (Nat.le_of_ble_eq_true rfl) d_P_point_88 ⟨Nat.le_of_ble_eq_true rfl, Nat.le_of_ble_eq_true rfl⟩) ?_
                refine lv_iadd hx hb d_P_point_91 ?_
                exact W.iret (v := (40 + (fn_P_noise sd p1 p2 p3))) hx hb hr (fun t h9 _ => ⟨congrArg (fun z => Outcome.returned (some (Value.int z))) (by unfold fn_P_point; rw [if_pos c1, if_neg c2, if_neg c3, if_neg c4, if_neg c5, if_pos c6, if_neg c7]), h9⟩) (fun _ h => nomatch h) d_P_point_92
            · refine lv_iconst (v := (-1)) hx hb d_P_point_44 (by decide) ?_
              exact W.iret (v := (-1)) hx hb hr (fun t h9 _ => ⟨congrArg (fun z => Outcome.returned (some (Value.int z))) (by unfold fn_P_point; rw [if_pos c1, if_neg c2, if_neg c3, if_neg c4, if_neg c5, if_neg c6]), h9⟩) (fun _ h => nomatch h) d_P_point_45
    · refine lv_iconst (v := (-1)) hx hb d_P_point_22 (by decide) ?_
      exact W.iret (v := (-1)) hx hb hr (fun t h9 _ => ⟨congrArg (fun z => Outcome.returned (some (Value.int z))) (by unfold fn_P_point; rw [if_pos c1, if_pos c2]), h9⟩) (fun _ h => nomatch h) d_P_point_23
