theorem mod_dbl (u d : Nat) (h0 : 0 < d) : (2 * (u / 2 % d) + u % 2) % d = u % d := by
  have e : u = 2 * (u / 2) + u % 2 := by omega
  conv => rhs; rw [e]
  rw [Nat.add_mod, Nat.mul_mod, Nat.mod_mod, ← Nat.mul_mod, ← Nat.add_mod]
theorem restN (z : Int64) {d : Nat} (h0 : 0 < d) (hd : d < 2 ^ 31) : fn_M_rest z (nI d) = nI (uN z % d) := by
  have h := uN_lt z
  have e1 : ((lN (uN z / 2) - lN (uN z / 2) / lN d * lN d) * 2 + (z &&& 1)) = lN (2 * (uN z / 2 % d) + uN z % 2) := by
    rw [rem_lN (by omega) h0 (by omega), and1_lN, show (2 : Int64) = lN 2 from rfl, lN_mul, lN_add, Nat.mul_comm]
  have hm : uN z / 2 % d < d := Nat.mod_lt _ h0
  unfold fn_M_rest
  rw [sh1, nI_l hd, e1, rem_lN (by omega) h0 (by omega), lN_i, mod_dbl _ _ h0]
theorem fk_in (z : Int64) : vp_in (fn_M_fact z 1 - fn_M_fact z 1 / 10 * 10) 10 := by
  have e : fn_M_fact z 1 = nI (uN z % 100) := by
    unfold fn_M_fact
    rw [if_pos rfl]
    exact restN z (d := 100) (by omega) (by omega)
  have hm : uN z % 100 < 100 := Nat.mod_lt _ (by omega)
  rw [e, show (10 : Int32) = nI 10 from rfl, pk_rem (by omega) (by omega) (by omega)]
  exact vp_in_nI (Nat.mod_lt _ (by omega)) (by omega)
def fn_M_point (sd : Int64) (n : Nat) (k : Int32) (ik : Nat → Int32) (p1 : Int32) (p2 : Int32) (p3 : Int32) : Int32 := (if k = 1 then (if (fn_M_in p1 0 ((nI n) - 1)) = 0 then (-1) else (if (fn_M_in p2 0 11) = 0 then (-1) else (if (fn_M_in p3 0 19) = 0 then (-1) else (if (((ik ((fn_M_fact (zN sd 1 p1) 1) - (fn_M_fact (zN sd 1 p1) 1) / 10 * 10).toNatClampNeg) >>> (((14 - (3 * (p3 / 4))) - (p2 / 4)) &&& 31)) &&& 1) = 1 then ((40 + (fn_M_rest (zN sd (5 + p1) ((12 * p3) + p2)) 33)) - 16) else ((200 + (fn_M_rest (zN sd (5 + p1) ((12 * p3) + p2)) 33)) - 16))))) else (-1))
set_option maxHeartbeats 4000000 in
set_option maxRecDepth 100000 in
theorem c_M_point (l : Launch) (G : GT) (H : Heap) (a : Nat) (w1 : Nat) (w2 : Nat) (w3 : Nat) (ns : Int64) (sd : Int64) (n : Nat) (k : Int32) (lb : Int32) (q : Nat) (g : Nat → Int32) (h : Nat → Int32) (ik : Nat → Int32) (p1 : Int32) (p2 : Int32) (p3 : Int32) (hP : va_P G.1 classes [(a, .inr (3, [.int 0, .long ns, .long sd, .int (nI n), .int k, .int lb, .int (nI q), .ref w1, .ref w2, .ref w3])), (w1, .inl (G.2.2.1, 100, .inl g)), (w2, .inl (G.2.2.2, 100, .inl h)), (w3, .inl (G.2.2.1, 10, .inl ik))] H) (hD0 : va_D (fun _ => True) [(a, .inr (3, [.int 0, .long ns, .long sd, .int (nI n), .int k, .int lb, .int (nI q), .ref w1, .ref w2, .ref w3])), (w1, .inl (G.2.2.1, 100, .inl g)), (w2, .inl (G.2.2.2, 100, .inl h)), (w3, .inl (G.2.2.1, 10, .inl ik))]) (hn : n ≤ 16) (hq : q ≤ 100) : Met l y_M_point (Cond.code y_M_point b_M_point 6 (some .int) :: TG) ({ frames := 2, cells := 0, slots := 0, locals := 46 }) (PC G H [.ref a, .int p1, .int p2, .int p3]) (QMi G (fn_M_point sd n k ik p1 p2 p3) [(a, .inr (3, [.int 0, .long ns, .long sd, .int (nI n), .int k, .int lb, .int (nI q), .ref w1, .ref w2, .ref w3])), (w1, .inl (G.2.2.1, 100, .inl g)), (w2, .inl (G.2.2.2, 100, .inl h)), (w3, .inl (G.2.2.1, 10, .inl ik))] (va_A [(a, .inr (3, [.int 0, .long ns, .long sd, .int (nI n), .int k, .int lb, .int (nI q), .ref w1, .ref w2, .ref w3])), (w1, .inl (G.2.2.1, 100, .inl g)), (w2, .inl (G.2.2.2, 100, .inl h)), (w3, .inl (G.2.2.1, 10, .inl ik))] H.size)) 0 0 (va_A [(a, .inr (3, [.int 0, .long ns, .long sd, .int (nI n), .int k, .int lb, .int (nI q), .ref w1, .ref w2, .ref w3])), (w1, .inl (G.2.2.1, 100, .inl g)), (w2, .inl (G.2.2.2, 100, .inl h)), (w3, .inl (G.2.2.1, 10, .inl ik))] H.size) := by
  refine Met.ofW (cc := b_M_point) (maxL := 6) (ret := (some .int)) (by decide) rfl ?_
  intro p e s m args below meth c s₁ B hml hv
  obtain ⟨rfl, hH, hKN⟩ := hv
  subst hH
  have hx := B.exec
  have hb := B.bytes
  have hr := B.returns
  have hts := atoms_spec (ws := (Cond.code y_M_point b_M_point 6 (some .int) :: TG)) B.pre
  have ht : ∀ w ∈ TG, w.before _ s = true := fun w h => hts w (List.mem_cons_of_mem _ h)
  have hown : s.vm.findClass R_M = some m.cls := findClass_of_methodNamed B.named
  have hlocks := B.notSynchronized
  have hK := hKN.1
  have hl := lv_entry ([.ref a, .int p1, .int p2, .int p3]) (n := 6) (Nat.le_of_ble_eq_true rfl)
  rw [lg_entry_eq]
  generalize (lg_sl ([.ref a, .int p1, .int p2, .int p3]) ++ List.replicate (6 - (lg_sl ([.ref a, .int p1, .int p2, .int p3])).length) Slot.unset).toArray = ls at hl ⊢
  have hl : lv_has ls 6 [(0, .ref a), (1, .int p1), (2, .int p2), (3, .int p3)] := hl
  have hD := hD0.self (sz := s.heap.size)
  generalize hAe : va_A [(a, .inr (3, [.int 0, .long ns, .long sd, .int (nI n), .int k, .int lb, .int (nI q), .ref w1, .ref w2, .ref w3])), (w1, .inl (G.2.2.1, 100, .inl g)), (w2, .inl (G.2.2.2, 100, .inl h)), (w3, .inl (G.2.2.1, 10, .inl ik))] s.heap.size = A at hD ⊢
  have hA : ∀ q : Nat, s.heap.size ≤ q → A q := fun q h => by rw [← hAe]; exact Or.inr h
  have hS : va_S A s.heap s.heap [] := va_S.rf
  refine lv_aload_n hx hb d_M_point_0 rfl (lv_at hl 0 rfl) ?_
  refine lv_iconst (v := 0) hx hb d_M_point_1 (by decide) ?_
  refine va_put (D := G.1) (ci := 3) (v := .int 0) (ty := .int) (C := R_M) (T := F_M) (N := 10) hx hb ht in_M t_M tk_M n_M hown hK hP hD hS 0 rfl rfl 0 (by decide) (ht _ kf_M_24) (fun _ h9 => h9) rfl (by decide +kernel) rfl rfl (Nat.le_of_ble_eq_true rfl) d_M_point_2 (fun H locs hP hD hS => ?_)
  have hP : va_P G.1 classes [(a, .inr (3, [.int 0, .long ns, .long sd, .int (nI n), .int k, .int lb, .int (nI q), .ref w1, .ref w2, .ref w3])), (w1, .inl (G.2.2.1, 100, .inl g)), (w2, .inl (G.2.2.2, 100, .inl h)), (w3, .inl (G.2.2.1, 10, .inl ik))] H := hP
  have hD : va_D A [(a, .inr (3, [.int 0, .long ns, .long sd, .int (nI n), .int k, .int lb, .int (nI q), .ref w1, .ref w2, .ref w3])), (w1, .inl (G.2.2.1, 100, .inl g)), (w2, .inl (G.2.2.2, 100, .inl h)), (w3, .inl (G.2.2.1, 10, .inl ik))] := hD
  refine lv_aload_n hx hb d_M_point_5 rfl (lv_at hl 0 rfl) ?_
  refine va_get (D := G.1) (ci := 3) (v := .int k) (C := R_M) (T := F_M) (N := 10) hx hb ht in_M hown hK hP 0 rfl rfl 4 (by decide) (ht _ kf_M_59) (fun _ h9 => h9) rfl d_M_point_6 ?_
  refine lv_iconst (v := 1) hx hb d_M_point_9 (by decide) ?_
  refine lv_icmp_ne (tgt := 47) hx hb d_M_point_10 (by decide) (fun c1 => ?_) (fun c1 => ?_)
  · refine lv_iconst (v := (-1)) hx hb d_M_point_47 (by decide) ?_
    exact W.iret (v := (-1)) hx hb hr (fun t h9 _ => ⟨⟨(-1), (), rfl, (by unfold fn_M_point; rw [if_neg c1]), by show va_P _ _ _ t.heap; rw [h9]; exact hP⟩, hS.F h9⟩) hS.2.2 d_M_point_48
  · refine lv_iload_n hx hb d_M_point_13 rfl (lv_at hl 1 rfl) ?_
    refine lv_iconst (v := 0) hx hb d_M_point_14 (by decide) ?_
    refine lv_aload_n hx hb d_M_point_15 rfl (lv_at hl 0 rfl) ?_
    refine va_get (D := G.1) (ci := 3) (v := .int (nI n)) (C := R_M) (T := F_M) (N := 10) hx hb ht in_M hown hK hP 0 rfl rfl 3 (by decide) (ht _ kf_M_62) (fun _ h9 => h9) rfl d_M_point_16 ?_
    refine lv_iconst (v := 1) hx hb d_M_point_19 (by decide) ?_
    refine lv_isub hx hb d_M_point_20 ?_
    refine pr_i (ru_S (As := [.int p1, .int 0, .int ((nI n) - 1)]) (rest := []) ⟨hx, hb, hml, hown, ht⟩ hKN (c_M_in l G _ p1 0 ((nI n) - 1)) kc_M_52 ⟨rfl, rfl⟩ ⟨Nat.le_of_ble_eq_true rfl, Nat.le_of_ble_eq_true rfl⟩ rfl hl.1 rfl (Nat.le_of_ble_eq_true rfl) d_M_point_21 ⟨Nat.le_of_ble_eq_true rfl, Nat.le_of_ble_eq_true rfl⟩) ?_
    refine lv_if_eq (tgt := 47) hx hb d_M_point_24 (by decide) (fun c2 => ?_) (fun c2 => ?_)
    · refine lv_iconst (v := (-1)) hx hb d_M_point_47 (by decide) ?_
      exact W.iret (v := (-1)) hx hb hr (fun t h9 _ => ⟨⟨(-1), (), rfl, (by unfold fn_M_point; rw [if_pos c1, if_pos c2]), by show va_P _ _ _ t.heap; rw [h9]; exact hP⟩, hS.F h9⟩) hS.2.2 d_M_point_48
    · refine lv_iload_n hx hb d_M_point_27 rfl (lv_at hl 2 rfl) ?_
      refine lv_iconst (v := 0) hx hb d_M_point_28 (by decide) ?_
      refine lv_bipush (v := 11) hx hb d_M_point_29 (by decide) ?_
      refine pr_i (ru_S (As := [.int p2, .int 0, .int 11]) (rest := []) ⟨hx, hb, hml, hown, ht⟩ hKN (c_M_in l G _ p2 0 11) kc_M_52 ⟨rfl, rfl⟩ ⟨Nat.le_of_ble_eq_true rfl, Nat.le_of_ble_eq_true rfl⟩ rfl hl.1 rfl (Nat.le_of_ble_eq_true rfl) d_M_point_31 ⟨Nat.le_of_ble_eq_true rfl, Nat.le_of_ble_eq_true rfl⟩) ?_
      refine lv_if_eq (tgt := 47) hx hb d_M_point_34 (by decide) (fun c3 => ?_) (fun c3 => ?_)
      · refine lv_iconst (v := (-1)) hx hb d_M_point_47 (by decide) ?_
        exact W.iret (v := (-1)) hx hb hr (fun t h9 _ => ⟨⟨(-1), (), rfl, (by unfold fn_M_point; rw [if_pos c1, if_neg c2, if_pos c3]), by show va_P _ _ _ t.heap; rw [h9]; exact hP⟩, hS.F h9⟩) hS.2.2 d_M_point_48
      · refine lv_iload_n hx hb d_M_point_37 rfl (lv_at hl 3 rfl) ?_
        refine lv_iconst (v := 0) hx hb d_M_point_38 (by decide) ?_
        refine lv_bipush (v := 19) hx hb d_M_point_39 (by decide) ?_
        refine pr_i (ru_S (As := [.int p3, .int 0, .int 19]) (rest := []) ⟨hx, hb, hml, hown, ht⟩ hKN (c_M_in l G _ p3 0 19) kc_M_52 ⟨rfl, rfl⟩ ⟨Nat.le_of_ble_eq_true rfl, Nat.le_of_ble_eq_true rfl⟩ rfl hl.1 rfl (Nat.le_of_ble_eq_true rfl) d_M_point_41 ⟨Nat.le_of_ble_eq_true rfl, Nat.le_of_ble_eq_true rfl⟩) ?_
        refine lv_if_ne (tgt := 49) hx hb d_M_point_44 (by decide) (fun c4 => ?_) (fun c4 => ?_)
        · refine lv_aload_n hx hb d_M_point_49 rfl (lv_at hl 0 rfl) ?_
          refine va_get (D := G.1) (ci := 3) (v := .ref w3) (C := R_M) (T := F_M) (N := 10) hx hb ht in_M hown hK hP 0 rfl rfl 9 (by decide) (ht _ kf_M_17) (fun _ h9 => h9) rfl d_M_point_50 ?_
          refine lv_aload_n hx hb d_M_point_53 rfl (lv_at hl 0 rfl) ?_
          refine va_get (D := G.1) (ci := 3) (v := .long sd) (C := R_M) (T := F_M) (N := 10) hx hb ht in_M hown hK hP 0 rfl rfl 2 (by decide) (ht _ kf_M_56) (fun _ h9 => h9) rfl d_M_point_54 ?_
          refine lv_iconst (v := 1) hx hb d_M_point_57 (by decide) ?_
          refine lv_iload_n hx hb d_M_point_58 rfl (lv_at hl 1 rfl) ?_
          refine pr_l (ru_S (As := [.long sd, .int 1, .int p1]) (rest := [.ref w3]) ⟨hx, hb, hml, hown, ht⟩ hKN (c_M_number l G _ sd 1 p1) kc_M_44 ⟨rfl, rfl⟩ ⟨Nat.le_of_ble_eq_true rfl, Nat.le_of_ble_eq_true rfl⟩ rfl hl.1 rfl (Nat.le_of_ble_eq_true rfl) d_M_point_59 ⟨Nat.le_of_ble_eq_true rfl, Nat.le_of_ble_eq_true rfl⟩) ?_
          refine lv_iconst (v := 1) hx hb d_M_point_62 (by decide) ?_
          refine pr_i (ru_S (As := [.long (zN sd 1 p1), .int 1]) (rest := [.ref w3]) ⟨hx, hb, hml, hown, ht⟩ hKN (c_M_fact l G _ (zN sd 1 p1) 1) kc_M_75 ⟨rfl, rfl⟩ ⟨Nat.le_of_ble_eq_true rfl, Nat.le_of_ble_eq_true rfl⟩ rfl hl.1 rfl (Nat.le_of_ble_eq_true rfl) d_M_point_63 ⟨Nat.le_of_ble_eq_true rfl, Nat.le_of_ble_eq_true rfl⟩) ?_
          refine lv_bipush (v := 10) hx hb d_M_point_66 (by decide) ?_
          refine lv_irem hx hb d_M_point_68 (by decide) ?_
          refine va_iald hx hb hK hP 3 1 rfl rfl (i := ((fn_M_fact (zN sd 1 p1) 1) - (fn_M_fact (zN sd 1 p1) 1) / 10 * 10)) (fk_in _) d_M_point_69 ?_
          refine lv_istore (lv' := [(4, .int (ik ((fn_M_fact (zN sd 1 p1) 1) - (fn_M_fact (zN sd 1 p1) 1) / 10 * 10).toNatClampNeg)), (0, .ref a), (1, .int p1), (2, .int p2), (3, .int p3)]) hx hb d_M_point_70 hl (by decide) rfl (fun ls hl => ?_)
          refine lv_iload hx hb d_M_point_72 (lv_at hl 0 rfl) ?_
          refine lv_bipush (v := 14) hx hb d_M_point_74 (by decide) ?_
          refine lv_iconst (v := 3) hx hb d_M_point_76 (by decide) ?_
          refine lv_iload_n hx hb d_M_point_77 rfl (lv_at hl 4 rfl) ?_
          refine lv_iconst (v := 4) hx hb d_M_point_78 (by decide) ?_
          refine lv_idiv hx hb d_M_point_79 (by decide) ?_
          refine lv_imul hx hb d_M_point_80 ?_
          refine lv_isub hx hb d_M_point_81 ?_
          refine lv_iload_n hx hb d_M_point_82 rfl (lv_at hl 3 rfl) ?_
          refine lv_iconst (v := 4) hx hb d_M_point_83 (by decide) ?_
          refine lv_idiv hx hb d_M_point_84 (by decide) ?_
          refine lv_isub hx hb d_M_point_85 ?_
          refine lv_ishr hx hb d_M_point_86 ?_
          refine lv_iconst (v := 1) hx hb d_M_point_87 (by decide) ?_
          refine lv_iand hx hb d_M_point_88 ?_
          refine lv_iconst (v := 1) hx hb d_M_point_89 (by decide) ?_
          refine lv_icmp_ne (tgt := 97) hx hb d_M_point_90 (by decide) (fun c5 => ?_) (fun c5 => ?_)
          · refine lv_iconst (v := 0) hx hb d_M_point_97 (by decide) ?_
            refine lv_istore (lv' := [(5, .int 0), (4, .int (ik ((fn_M_fact (zN sd 1 p1) 1) - (fn_M_fact (zN sd 1 p1) 1) / 10 * 10).toNatClampNeg)), (0, .ref a), (1, .int p1), (2, .int p2), (3, .int p3)]) hx hb d_M_point_98 hl (by decide) rfl (fun ls hl => ?_)
            refine lv_iload hx hb d_M_point_100 (lv_at hl 0 rfl) ?_
            refine lv_if_eq (tgt := 110) hx hb d_M_point_102 (by decide) (fun _ => ?_) (fun c6 => absurd (by decide) c6)
            refine lv_sipush (v := 200) hx hb d_M_point_110 (by decide) ?_
            refine lv_aload_n hx hb d_M_point_113 rfl (lv_at hl 2 rfl) ?_
            refine va_get (D := G.1) (ci := 3) (v := .long sd) (C := R_M) (T := F_M) (N := 10) hx hb ht in_M hown hK hP 0 rfl rfl 2 (by decide) (ht _ kf_M_56) (fun _ h9 => h9) rfl d_M_point_114 ?_
            refine lv_iconst (v := 5) hx hb d_M_point_117 (by decide) ?_
            refine lv_iload_n hx hb d_M_point_118 rfl (lv_at hl 3 rfl) ?_
            refine lv_iadd hx hb d_M_point_119 ?_
            refine lv_bipush (v := 12) hx hb d_M_point_120 (by decide) ?_
            refine lv_iload_n hx hb d_M_point_122 rfl (lv_at hl 5 rfl) ?_
            refine lv_imul hx hb d_M_point_123 ?_
            refine lv_iload_n hx hb d_M_point_124 rfl (lv_at hl 4 rfl) ?_
            refine lv_iadd hx hb d_M_point_125 ?_
            refine pr_l (ru_S (As := [.long sd, .int (5 + p1), .int ((12 * p3) + p2)]) (rest := [.int 200]) ⟨hx, hb, hml, hown, ht⟩ hKN (c_M_number l G _ sd (5 + p1) ((12 * p3) + p2)) kc_M_44 ⟨rfl, rfl⟩ ⟨Nat.le_of_ble_eq_true rfl, Nat.le_of_ble_eq_true rfl⟩ rfl hl.1 rfl (Nat.le_of_ble_eq_true rfl) d_M_point_126 ⟨Nat.le_of_ble_eq_true rfl, Nat.le_of_ble_eq_true rfl⟩) ?_
            refine lv_bipush (v := 33) hx hb d_M_point_129 (by decide) ?_
            refine pr_i (ru_S (As := [.long (zN sd (5 + p1) ((12 * p3) + p2)), .int 33]) (rest := [.int 200]) ⟨hx, hb, hml, hown, ht⟩ hKN (c_M_rest l G _ (zN sd (5 + p1) ((12 * p3) + p2)) 33 (by decide)) kc_M_40 ⟨rfl, rfl⟩ ⟨Nat.le_of_ble_eq_true rfl, Nat.le_of_ble_eq_true rfl⟩ rfl hl.1 rfl (Nat.le_of_ble_eq_true rfl) d_M_point_131 ⟨Nat.le_of_ble_eq_true rfl, Nat.le_of_ble_eq_true rfl⟩) ?_
            refine lv_iadd hx hb d_M_point_134 ?_
            refine lv_bipush (v := 16) hx hb d_M_point_135 (by decide) ?_
            refine lv_isub hx hb d_M_point_137 ?_
            exact W.iret (v := ((200 + (fn_M_rest (zN sd (5 + p1) ((12 * p3) + p2)) 33)) - 16)) hx hb hr (fun t h9 _ => ⟨⟨((200 + (fn_M_rest (zN sd (5 + p1) ((12 * p3) + p2)) 33)) - 16), (), rfl, (by unfold fn_M_point; rw [if_pos c1, if_neg c2, if_neg c3, if_neg c4, if_neg c5]), by show va_P _ _ _ t.heap; rw [h9]; exact hP⟩, hS.F h9⟩) hS.2.2 d_M_point_138
          · refine lv_iconst (v := 1) hx hb d_M_point_93 (by decide) ?_
            refine lv_goto (tgt := 98) hx hb d_M_point_94 (by decide) ?_
            refine lv_istore (lv' := [(5, .int 1), (4, .int (ik ((fn_M_fact (zN sd 1 p1) 1) - (fn_M_fact (zN sd 1 p1) 1) / 10 * 10).toNatClampNeg)), (0, .ref a), (1, .int p1), (2, .int p2), (3, .int p3)]) hx hb d_M_point_98 hl (by decide) rfl (fun ls hl => ?_)
            refine lv_iload hx hb d_M_point_100 (lv_at hl 0 rfl) ?_
            refine lv_if_eq (tgt := 110) hx hb d_M_point_102 (by decide) (fun c7 => absurd c7 (by decide)) (fun _ => ?_)
            refine lv_bipush (v := 40) hx hb d_M_point_105 (by decide) ?_
            refine lv_goto (tgt := 113) hx hb d_M_point_107 (by decide) ?_
            refine lv_aload_n hx hb d_M_point_113 rfl (lv_at hl 2 rfl) ?_
            refine va_get (D := G.1) (ci := 3) (v := .long sd) (C := R_M) (T := F_M) (N := 10) hx hb ht in_M hown hK hP 0 rfl rfl 2 (by decide) (ht _ kf_M_56) (fun _ h9 => h9) rfl d_M_point_114 ?_
            refine lv_iconst (v := 5) hx hb d_M_point_117 (by decide) ?_
            refine lv_iload_n hx hb d_M_point_118 rfl (lv_at hl 3 rfl) ?_
            refine lv_iadd hx hb d_M_point_119 ?_
            refine lv_bipush (v := 12) hx hb d_M_point_120 (by decide) ?_
            refine lv_iload_n hx hb d_M_point_122 rfl (lv_at hl 5 rfl) ?_
            refine lv_imul hx hb d_M_point_123 ?_
            refine lv_iload_n hx hb d_M_point_124 rfl (lv_at hl 4 rfl) ?_
            refine lv_iadd hx hb d_M_point_125 ?_
            refine pr_l (ru_S (As := [.long sd, .int (5 + p1), .int ((12 * p3) + p2)]) (rest := [.int 40]) ⟨hx, hb, hml, hown, ht⟩ hKN (c_M_number l G _ sd (5 + p1) ((12 * p3) + p2)) kc_M_44 ⟨rfl, rfl⟩ ⟨Nat.le_of_ble_eq_true rfl, Nat.le_of_ble_eq_true rfl⟩ rfl hl.1 rfl (Nat.le_of_ble_eq_true rfl) d_M_point_126 ⟨Nat.le_of_ble_eq_true rfl, Nat.le_of_ble_eq_true rfl⟩) ?_
            refine lv_bipush (v := 33) hx hb d_M_point_129 (by decide) ?_
            refine pr_i (ru_S (As := [.long (zN sd (5 + p1) ((12 * p3) + p2)), .int 33]) (rest := [.int 40]) ⟨hx, hb, hml, hown, ht⟩ hKN (c_M_rest l G _ (zN sd (5 + p1) ((12 * p3) + p2)) 33 (by decide)) kc_M_40 ⟨rfl, rfl⟩ ⟨Nat.le_of_ble_eq_true rfl, Nat.le_of_ble_eq_true rfl⟩ rfl hl.1 rfl (Nat.le_of_ble_eq_true rfl) d_M_point_131 ⟨Nat.le_of_ble_eq_true rfl, Nat.le_of_ble_eq_true rfl⟩) ?_
            refine lv_iadd hx hb d_M_point_134 ?_
            refine lv_bipush (v := 16) hx hb d_M_point_135 (by decide) ?_
            refine lv_isub hx hb d_M_point_137 ?_
            exact W.iret (v := ((40 + (fn_M_rest (zN sd (5 + p1) ((12 * p3) + p2)) 33)) - 16)) hx hb hr (fun t h9 _ => ⟨⟨((40 + (fn_M_rest (zN sd (5 + p1) ((12 * p3) + p2)) 33)) - 16), (), rfl, (by unfold fn_M_point; rw [if_pos c1, if_neg c2, if_neg c3, if_neg c4, if_pos c5]), by show va_P _ _ _ t.heap; rw [h9]; exact hP⟩, hS.F h9⟩) hS.2.2 d_M_point_138
        · refine lv_iconst (v := (-1)) hx hb d_M_point_47 (by decide) ?_
          exact W.iret (v := (-1)) hx hb hr (fun t h9 _ => ⟨⟨(-1), (), rfl, (by unfold fn_M_point; rw [if_pos c1, if_neg c2, if_neg c3, if_pos c4]), by show va_P _ _ _ t.heap; rw [h9]; exact hP⟩, hS.F h9⟩) hS.2.2 d_M_point_48
