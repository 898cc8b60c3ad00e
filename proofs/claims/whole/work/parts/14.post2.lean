set_option maxHeartbeats 4000000 in
set_option maxRecDepth 100000 in
theorem c_P_draw_no (l : Launch) (G : GT) (H : Heap) (a : Nat) (d1 : Nat) (d2 : Nat) (v1 : Nat) (v2 : Nat) (v3 : Nat) (o1 : Nat) (t1 : Nat) (sd : Int64) (k : Int32) (n : Nat) (fb : Int32) (f : Nat → Int64) (g : Nat → Int32) (h : Nat → Int32) (q : Nat) (ns : Int64) (lb : Int32) (p1 : Int32) (p2 : Int32) (hP : va_P G.1 classes [(a, .inr (0, [.ref d1, .ref v1, .ref o1, .ref t1, .long ns, .int lb])), (d1, .inr (1, [.ref d2, .long sd, .int k, .int (nI n), .int fb])), (d2, .inl (G.2.1, 16, .inr (.inl f))), (v1, .inr (2, [.ref v2, .ref v3, .int (nI q)])), (v2, .inl (G.2.2.1, 100, .inl g)), (v3, .inl (G.2.2.2, 100, .inl h))] H) (hn : n ≤ 16) (hq : q ≤ 100) (hdr : fn_P_isDrawable p1 p2 = 0) : Met l y_P_draw (Cond.code y_P_draw b_P_draw 3 (some .int) :: TG) ({ frames := 1, cells := 0, slots := 0, locals := 21 }) (PC G H [.ref a, .int p1, .int p2]) (QcRead (-12)) 0 0 (fun _ => False) := by
  refine Met.ofW (cc := b_P_draw) (maxL := 3) (ret := (some .int)) (by decide) rfl ?_
  intro p e s m args below meth c s₁ B hml hv
  obtain ⟨rfl, hH, hKN⟩ := hv
  subst hH
  have hx := B.exec
  have hb := B.bytes
  have hr := B.returns
  have hts := atoms_spec (ws := (Cond.code y_P_draw b_P_draw 3 (some .int) :: TG)) B.pre
  have ht : ∀ w ∈ TG, w.before _ s = true := fun w h => hts w (List.mem_cons_of_mem _ h)
  have hown : s.vm.findClass R_P = some m.cls := findClass_of_methodNamed B.named
  have hlocks := B.notSynchronized
  have hK := hKN.1
  have hl := lv_entry ([.ref a, .int p1, .int p2]) (n := 3) (Nat.le_of_ble_eq_true rfl)
  rw [lg_entry_eq]
  generalize (lg_sl ([.ref a, .int p1, .int p2]) ++ List.replicate (3 - (lg_sl ([.ref a, .int p1, .int p2])).length) Slot.unset).toArray = ls at hl ⊢
  have hl : lv_has ls 3 [(0, .ref a), (1, .int p1), (2, .int p2)] := hl
  refine lv_iload_n hx hb d_P_draw_0 rfl (lv_at hl 1 rfl) ?_
  refine lv_iload_n hx hb d_P_draw_1 rfl (lv_at hl 2 rfl) ?_
  refine pr_i (ru_S (As := [.int p1, .int p2]) (rest := []) ⟨hx, hb, hml, hown, ht⟩ hKN (c_P_isDrawable l G _ p1 p2) kc_P_37 ⟨rfl, rfl⟩ ⟨Nat.le_of_ble_eq_true rfl, Nat.le_of_ble_eq_true rfl⟩ rfl hl.1 rfl (Nat.le_of_ble_eq_true rfl) d_P_draw_2 ⟨Nat.le_of_ble_eq_true rfl, Nat.le_of_ble_eq_true rfl⟩) ?_
  refine lv_if_ne (tgt := 11) hx hb d_P_draw_5 (by decide) (fun c1 => ?_) (fun c1 => ?_)
  · exact absurd hdr c1
  · refine lv_bipush (v := (-12)) hx hb d_P_draw_8 (by decide) ?_
    exact W.iret (v := (-12)) hx hb hr (fun t h9 _ => ⟨congrArg (fun z => Outcome.returned (some (Value.int z))) rfl, h9⟩) (fun _ h => nomatch h) d_P_draw_10
set_option maxHeartbeats 4000000 in
set_option maxRecDepth 100000 in
theorem c_P_draw (l : Launch) (G : GT) (H : Heap) (a : Nat) (d1 : Nat) (d2 : Nat) (v1 : Nat) (v2 : Nat) (v3 : Nat) (o1 : Nat) (t1 : Nat) (sd : Int64) (k : Int32) (n : Nat) (fb : Int32) (f : Nat → Int64) (g : Nat → Int32) (h : Nat → Int32) (q : Nat) (ns : Int64) (lb : Int32) (p1 : Int32) (p2 : Nat) (hP : va_P G.1 classes [(a, .inr (0, [.ref d1, .ref v1, .ref o1, .ref t1, .long ns, .int lb])), (d1, .inr (1, [.ref d2, .long sd, .int k, .int (nI n), .int fb])), (d2, .inl (G.2.1, 16, .inr (.inl f))), (v1, .inr (2, [.ref v2, .ref v3, .int (nI q)])), (v2, .inl (G.2.2.1, 100, .inl g)), (v3, .inl (G.2.2.2, 100, .inl h))] H) (hD0 : va_D (fun _ => True) [(a, .inr (0, [.ref d1, .ref v1, .ref o1, .ref t1, .long ns, .int lb])), (d1, .inr (1, [.ref d2, .long sd, .int k, .int (nI n), .int fb])), (d2, .inl (G.2.1, 16, .inr (.inl f))), (v1, .inr (2, [.ref v2, .ref v3, .int (nI q)])), (v2, .inl (G.2.2.1, 100, .inl g)), (v3, .inl (G.2.2.2, 100, .inl h))]) (hn : n ≤ 16) (hq : q ≤ 100) (hdr : ¬ fn_P_isDrawable p1 (nI p2) = 0) (hp2 : p2 < 16) : Met l y_P_draw (Cond.code y_P_draw b_P_draw 3 (some .int) :: TG) ({ frames := 5, cells := 0, slots := 0, locals := 117 }) (PC G H [.ref a, .int p1, .int (nI p2)]) (QMi G (nI (p2 + 1)) [(a, .inr (0, [.ref d1, .ref v1, .ref o1, .ref t1, .long ns, .int (fn_D_allBits (p2 + 1))])), (d1, .inr (1, [.ref d2, .long ns, .int p1, .int (nI (p2 + 1)), .int (fbN p1 (p2 + 1) (fl ns p1 f (p2 + 1)))])), (d2, .inl (G.2.1, 16, .inr (.inl (fl ns p1 f (p2 + 1))))), (v1, .inr (2, [.ref v2, .ref v3, .int (nI 0)])), (v2, .inl (G.2.2.1, 100, .inl g)), (v3, .inl (G.2.2.2, 100, .inl h))] (va_A [(a, .inr (0, [.ref d1, .ref v1, .ref o1, .ref t1, .long ns, .int lb])), (d1, .inr (1, [.ref d2, .long sd, .int k, .int (nI n), .int fb])), (d2, .inl (G.2.1, 16, .inr (.inl f))), (v1, .inr (2, [.ref v2, .ref v3, .int (nI q)])), (v2, .inl (G.2.2.1, 100, .inl g)), (v3, .inl (G.2.2.2, 100, .inl h))] H.size)) 0 0 (va_A [(a, .inr (0, [.ref d1, .ref v1, .ref o1, .ref t1, .long ns, .int lb])), (d1, .inr (1, [.ref d2, .long sd, .int k, .int (nI n), .int fb])), (d2, .inl (G.2.1, 16, .inr (.inl f))), (v1, .inr (2, [.ref v2, .ref v3, .int (nI q)])), (v2, .inl (G.2.2.1, 100, .inl g)), (v3, .inl (G.2.2.2, 100, .inl h))] H.size) := by
  refine Met.ofW (cc := b_P_draw) (maxL := 3) (ret := (some .int)) (by decide) rfl ?_
  intro p e s m args below meth c s₁ B hml hv
  obtain ⟨rfl, hH, hKN⟩ := hv
  subst hH
  have hx := B.exec
  have hb := B.bytes
  have hr := B.returns
  have hts := atoms_spec (ws := (Cond.code y_P_draw b_P_draw 3 (some .int) :: TG)) B.pre
  have ht : ∀ w ∈ TG, w.before _ s = true := fun w h => hts w (List.mem_cons_of_mem _ h)
  have hown : s.vm.findClass R_P = some m.cls := findClass_of_methodNamed B.named
  have hlocks := B.notSynchronized
  have hK := hKN.1
  have hl := lv_entry ([.ref a, .int p1, .int (nI p2)]) (n := 3) (Nat.le_of_ble_eq_true rfl)
  rw [lg_entry_eq]
  generalize (lg_sl ([.ref a, .int p1, .int (nI p2)]) ++ List.replicate (3 - (lg_sl ([.ref a, .int p1, .int (nI p2)])).length) Slot.unset).toArray = ls at hl ⊢
  have hl : lv_has ls 3 [(0, .ref a), (1, .int p1), (2, .int (nI p2))] := hl
  have hD := hD0.self (sz := s.heap.size)
  generalize hAe : va_A [(a, .inr (0, [.ref d1, .ref v1, .ref o1, .ref t1, .long ns, .int lb])), (d1, .inr (1, [.ref d2, .long sd, .int k, .int (nI n), .int fb])), (d2, .inl (G.2.1, 16, .inr (.inl f))), (v1, .inr (2, [.ref v2, .ref v3, .int (nI q)])), (v2, .inl (G.2.2.1, 100, .inl g)), (v3, .inl (G.2.2.2, 100, .inl h))] s.heap.size = A at hD ⊢
  have hA : ∀ q : Nat, s.heap.size ≤ q → A q := fun q h => by rw [← hAe]; exact Or.inr h
  have hS : va_S A s.heap s.heap [] := va_S.rf
  refine lv_iload_n hx hb d_P_draw_0 rfl (lv_at hl 1 rfl) ?_
  refine lv_iload_n hx hb d_P_draw_1 rfl (lv_at hl 2 rfl) ?_
  refine pr_i (ru_S (As := [.int p1, .int (nI p2)]) (rest := []) ⟨hx, hb, hml, hown, ht⟩ hKN (c_P_isDrawable l G _ p1 (nI p2)) kc_P_37 ⟨rfl, rfl⟩ ⟨Nat.le_of_ble_eq_true rfl, Nat.le_of_ble_eq_true rfl⟩ rfl hl.1 rfl (Nat.le_of_ble_eq_true rfl) d_P_draw_2 ⟨Nat.le_of_ble_eq_true rfl, Nat.le_of_ble_eq_true rfl⟩) ?_
  refine lv_if_ne (tgt := 11) hx hb d_P_draw_5 (by decide) (fun c1 => ?_) (fun c1 => ?_)
  · refine lv_aload_n hx hb d_P_draw_11 rfl (lv_at hl 0 rfl) ?_
    refine va_get (D := G.1) (ci := 0) (v := .ref d1) (C := R_P) (T := F_P) (N := 6) hx hb ht in_P hown hK hP 0 rfl rfl 0 (by decide) (ht _ kf_P_20) (fun _ h9 => h9) rfl d_P_draw_12 ?_
    refine lv_aload_n hx hb d_P_draw_15 rfl (lv_at hl 0 rfl) ?_
    refine va_get (D := G.1) (ci := 0) (v := .long ns) (C := R_P) (T := F_P) (N := 6) hx hb ht in_P hown hK hP 0 rfl rfl 4 (by decide) (ht _ kf_P_7) (fun _ h9 => h9) rfl d_P_draw_16 ?_
    refine lv_iload_n hx hb d_P_draw_19 rfl (lv_at hl 1 rfl) ?_
    refine lv_iload_n hx hb d_P_draw_20 rfl (lv_at hl 2 rfl) ?_
    refine lv_iconst (v := 1) hx hb d_P_draw_21 (by decide) ?_
    refine lv_iadd hx hb d_P_draw_22 ?_
    rw [nI_1 p2]
    refine mu_v (wr := [(a, .inr (0, [.ref d1, .ref v1, .ref o1, .ref t1, .long ns, .int lb])), (v1, .inr (2, [.ref v2, .ref v3, .int (nI q)])), (v2, .inl (G.2.2.1, 100, .inl g)), (v3, .inl (G.2.2.2, 100, .inl h))]) (wn := [(a, .inr (0, [.ref d1, .ref v1, .ref o1, .ref t1, .long ns, .int lb])), (d1, .inr (1, [.ref d2, .long ns, .int p1, .int (nI (p2 + 1)), .int (fbN p1 (p2 + 1) (fl ns p1 f (p2 + 1)))])), (d2, .inl (G.2.1, 16, .inr (.inl (fl ns p1 f (p2 + 1))))), (v1, .inr (2, [.ref v2, .ref v3, .int (nI q)])), (v2, .inl (G.2.2.1, 100, .inl g)), (v3, .inl (G.2.2.2, 100, .inl h))]) (ru_V (b := d1) (As := [.long ns, .int p1, .int (nI (p2 + 1))]) (rest := []) ⟨hx, hb, hml, hown, ht⟩ hKN (c_D_fill l G _ d1 d2 sd k n fb f ns p1 (p2 + 1) (hP.sub [1, 2] rfl) ((hD.sub (ws' := [(d1, .inr (1, [.ref d2, .long sd, .int k, .int (nI n), .int fb])), (d2, .inl (G.2.1, 16, .inr (.inl f)))]) [1, 2] (by decide) rfl).weaken (fun _ _ _ _ => trivial)) hn (show p2 + 1 ≤ 16 by omega)) kc_P_41 ⟨rfl, rfl⟩ ⟨Nat.le_of_ble_eq_true rfl, Nat.le_of_ble_eq_true rfl⟩ (va_recv hK hP (ci := 1) (q0 := 1) rfl rfl) rfl hl.1 rfl (Nat.le_of_ble_eq_true rfl) d_P_draw_23 ⟨Nat.le_of_ble_eq_true rfl, Nat.le_of_ble_eq_true rfl⟩) hP hD hS hA [1, 2] [0, 3, 4, 5] [0, 4, 5, 1, 2, 3] rfl rfl ⟨by decide, by decide, by decide⟩ (by decide) rfl rfl (fun H locs hP hD hS => ?_)
    have hn2 : p2 + 1 ≤ 16 := by omega
    refine lv_aload_n hx hb d_P_draw_26 rfl (lv_at hl 0 rfl) ?_
    refine lv_aload_n hx hb d_P_draw_27 rfl (lv_at hl 0 rfl) ?_
    refine va_get (D := G.1) (ci := 0) (v := .ref d1) (C := R_P) (T := F_P) (N := 6) hx hb ht in_P hown hK hP 0 rfl rfl 0 (by decide) (ht _ kf_P_20) (fun _ h9 => h9) rfl d_P_draw_28 ?_
    refine pr_i (ru_V (b := d1) (As := []) (rest := [.ref a]) ⟨hx, hb, hml, hown, ht⟩ hKN (c_D_allBits l G _ d1 d2 ns p1 (p2 + 1) (fbN p1 (p2 + 1) (fl ns p1 f (p2 + 1))) (fl ns p1 f (p2 + 1)) (hP.sub [1, 2] rfl) hn2) kc_P_45 ⟨rfl, rfl⟩ ⟨Nat.le_of_ble_eq_true rfl, Nat.le_of_ble_eq_true rfl⟩ (va_recv hK hP (ci := 1) (q0 := 1) rfl rfl) rfl hl.1 rfl (Nat.le_of_ble_eq_true rfl) d_P_draw_31 ⟨Nat.le_of_ble_eq_true rfl, Nat.le_of_ble_eq_true rfl⟩) ?_
    refine va_put (D := G.1) (ci := 0) (v := .int (fn_D_allBits (p2 + 1))) (ty := .int) (C := R_P) (T := F_P) (N := 6) hx hb ht in_P t_P tk_P n_P hown hK hP hD hS 0 rfl rfl 5 (by decide) (ht _ kf_P_13) (fun _ h9 => h9) rfl (by decide +kernel) rfl rfl (Nat.le_of_ble_eq_true rfl) d_P_draw_34 (fun H locs hP hD hS => ?_)
    have hP : va_P G.1 classes [(a, .inr (0, [.ref d1, .ref v1, .ref o1, .ref t1, .long ns, .int (fn_D_allBits (p2 + 1))])), (d1, .inr (1, [.ref d2, .long ns, .int p1, .int (nI (p2 + 1)), .int (fbN p1 (p2 + 1) (fl ns p1 f (p2 + 1)))])), (d2, .inl (G.2.1, 16, .inr (.inl (fl ns p1 f (p2 + 1))))), (v1, .inr (2, [.ref v2, .ref v3, .int (nI q)])), (v2, .inl (G.2.2.1, 100, .inl g)), (v3, .inl (G.2.2.2, 100, .inl h))] H := hP
    have hD : va_D A [(a, .inr (0, [.ref d1, .ref v1, .ref o1, .ref t1, .long ns, .int (fn_D_allBits (p2 + 1))])), (d1, .inr (1, [.ref d2, .long ns, .int p1, .int (nI (p2 + 1)), .int (fbN p1 (p2 + 1) (fl ns p1 f (p2 + 1)))])), (d2, .inl (G.2.1, 16, .inr (.inl (fl ns p1 f (p2 + 1))))), (v1, .inr (2, [.ref v2, .ref v3, .int (nI q)])), (v2, .inl (G.2.2.1, 100, .inl g)), (v3, .inl (G.2.2.2, 100, .inl h))] := hD
    refine lv_aload_n hx hb d_P_draw_37 rfl (lv_at hl 0 rfl) ?_
    refine va_get (D := G.1) (ci := 0) (v := .ref v1) (C := R_P) (T := F_P) (N := 6) hx hb ht in_P hown hK hP 0 rfl rfl 1 (by decide) (ht _ kf_P_33) (fun _ h9 => h9) rfl d_P_draw_38 ?_
    refine mu_v (wr := [(a, .inr (0, [.ref d1, .ref v1, .ref o1, .ref t1, .long ns, .int (fn_D_allBits (p2 + 1))])), (d1, .inr (1, [.ref d2, .long ns, .int p1, .int (nI (p2 + 1)), .int (fbN p1 (p2 + 1) (fl ns p1 f (p2 + 1)))])), (d2, .inl (G.2.1, 16, .inr (.inl (fl ns p1 f (p2 + 1)))))]) (wn := [(a, .inr (0, [.ref d1, .ref v1, .ref o1, .ref t1, .long ns, .int (fn_D_allBits (p2 + 1))])), (d1, .inr (1, [.ref d2, .long ns, .int p1, .int (nI (p2 + 1)), .int (fbN p1 (p2 + 1) (fl ns p1 f (p2 + 1)))])), (d2, .inl (G.2.1, 16, .inr (.inl (fl ns p1 f (p2 + 1))))), (v1, .inr (2, [.ref v2, .ref v3, .int (nI 0)])), (v2, .inl (G.2.2.1, 100, .inl g)), (v3, .inl (G.2.2.2, 100, .inl h))]) (ru_V (b := v1) (As := []) (rest := []) ⟨hx, hb, hml, hown, ht⟩ hKN (c_V_forget l G _ v1 v2 v3 g h q (hP.sub [3, 4, 5] rfl) ((hD.sub (ws' := [(v1, .inr (2, [.ref v2, .ref v3, .int (nI q)])), (v2, .inl (G.2.2.1, 100, .inl g)), (v3, .inl (G.2.2.2, 100, .inl h))]) [3, 4, 5] (by decide) rfl).weaken (fun _ _ _ _ => trivial)) hq) kc_P_49 ⟨rfl, rfl⟩ ⟨Nat.le_of_ble_eq_true rfl, Nat.le_of_ble_eq_true rfl⟩ (va_recv hK hP (ci := 2) (q0 := 3) rfl rfl) rfl hl.1 rfl (Nat.le_of_ble_eq_true rfl) d_P_draw_41 ⟨Nat.le_of_ble_eq_true rfl, Nat.le_of_ble_eq_true rfl⟩) hP hD hS hA [3, 4, 5] [0, 1, 2] [0, 1, 2, 3, 4, 5] rfl rfl ⟨by decide, by decide, by decide⟩ (by decide) rfl rfl (fun H locs hP hD hS => ?_)
    refine lv_aload_n hx hb d_P_draw_44 rfl (lv_at hl 0 rfl) ?_
    refine va_get (D := G.1) (ci := 0) (v := .ref d1) (C := R_P) (T := F_P) (N := 6) hx hb ht in_P hown hK hP 0 rfl rfl 0 (by decide) (ht _ kf_P_20) (fun _ h9 => h9) rfl d_P_draw_45 ?_
    refine va_getN (D := G.1) (ci := 1) (v := .int (nI (p2 + 1))) (C := R_D) (T := F_D) (N := 5) hx hb ht in_D hown hK hP 1 rfl rfl 3 (by decide) (va_Nw.use rfl (hKN.2 _ kn_P_52 rfl)) (fun _ h9 => h9) rfl d_P_draw_48 ?_
    exact W.iret (v := nI (p2 + 1)) hx hb hr (fun t h9 _ => ⟨⟨nI (p2 + 1), (), rfl, rfl, by show va_P _ _ _ t.heap; rw [h9]; exact hP⟩, hS.F h9⟩) hS.2.2 d_P_draw_51
  · exact absurd c1 hdr
def vdc (n : Nat) (x : Int32) : Int32 := if fn_D_isEmpty n = 0 then (if x = 0 then -12 else if (x &&& (fn_D_allBits n ^^^ (-1))) = 0 then 0 else -12) else -13
set_option maxHeartbeats 4000000 in
set_option maxRecDepth 100000 in
theorem c_P_verdict_no (l : Launch) (G : GT) (H : Heap) (a : Nat) (d1 : Nat) (d2 : Nat) (v1 : Nat) (v2 : Nat) (v3 : Nat) (o1 : Nat) (t1 : Nat) (sd : Int64) (k : Int32) (n : Nat) (fb : Int32) (f : Nat → Int64) (g : Nat → Int32) (h : Nat → Int32) (q : Nat) (ns : Int64) (lb : Int32) (p1 : Int32) (p2 : Int32) (hP : va_P G.1 classes [(a, .inr (0, [.ref d1, .ref v1, .ref o1, .ref t1, .long ns, .int lb])), (d1, .inr (1, [.ref d2, .long sd, .int k, .int (nI n), .int fb])), (d2, .inl (G.2.1, 16, .inr (.inl f))), (v1, .inr (2, [.ref v2, .ref v3, .int (nI q)])), (v2, .inl (G.2.2.1, 100, .inl g)), (v3, .inl (G.2.2.2, 100, .inl h))] H) (hn : n ≤ 16) (hq : q ≤ 100) (hvd : ¬ vdc n p1 = 0) : Met l y_P_verdict (Cond.code y_P_verdict b_P_verdict 3 (some .int) :: TG) ({ frames := 1, cells := 0, slots := 0, locals := 20 }) (PC G H [.ref a, .int p1, .int p2]) (QcRead (vdc n p1)) 0 0 (fun _ => False) := by
  refine Met.ofW (cc := b_P_verdict) (maxL := 3) (ret := (some .int)) (by decide) rfl ?_
  intro p e s m args below meth c s₁ B hml hv
  obtain ⟨rfl, hH, hKN⟩ := hv
  subst hH
  have hx := B.exec
  have hb := B.bytes
  have hr := B.returns
  have hts := atoms_spec (ws := (Cond.code y_P_verdict b_P_verdict 3 (some .int) :: TG)) B.pre
  have ht : ∀ w ∈ TG, w.before _ s = true := fun w h => hts w (List.mem_cons_of_mem _ h)
  have hown : s.vm.findClass R_P = some m.cls := findClass_of_methodNamed B.named
  have hlocks := B.notSynchronized
  have hK := hKN.1
  have hl := lv_entry ([.ref a, .int p1, .int p2]) (n := 3) (Nat.le_of_ble_eq_true rfl)
  rw [lg_entry_eq]
  generalize (lg_sl ([.ref a, .int p1, .int p2]) ++ List.replicate (3 - (lg_sl ([.ref a, .int p1, .int p2])).length) Slot.unset).toArray = ls at hl ⊢
  have hl : lv_has ls 3 [(0, .ref a), (1, .int p1), (2, .int p2)] := hl
  refine lv_aload_n hx hb d_P_verdict_0 rfl (lv_at hl 0 rfl) ?_
  refine va_get (D := G.1) (ci := 0) (v := .ref d1) (C := R_P) (T := F_P) (N := 6) hx hb ht in_P hown hK hP 0 rfl rfl 0 (by decide) (ht _ kf_P_20) (fun _ h9 => h9) rfl d_P_verdict_1 ?_
  refine pr_i (ru_V (b := d1) (As := []) (rest := []) ⟨hx, hb, hml, hown, ht⟩ hKN (c_D_isEmpty l G _ d1 d2 sd k n fb f (hP.sub [1, 2] rfl) hn) kc_P_80 ⟨rfl, rfl⟩ ⟨Nat.le_of_ble_eq_true rfl, Nat.le_of_ble_eq_true rfl⟩ (va_recv hK hP (ci := 1) (q0 := 1) rfl rfl) rfl hl.1 rfl (Nat.le_of_ble_eq_true rfl) d_P_verdict_4 ⟨Nat.le_of_ble_eq_true rfl, Nat.le_of_ble_eq_true rfl⟩) ?_
  refine lv_if_eq (tgt := 13) hx hb d_P_verdict_7 (by decide) (fun c1 => ?_) (fun c1 => ?_)
  · refine lv_iload_n hx hb d_P_verdict_13 rfl (lv_at hl 1 rfl) ?_
    refine lv_if_eq (tgt := 31) hx hb d_P_verdict_14 (by decide) (fun c2 => ?_) (fun c2 => ?_)
    · refine lv_bipush (v := (-12)) hx hb d_P_verdict_31 (by decide) ?_
      exact W.iret (v := (-12)) hx hb hr (fun t h9 _ => ⟨congrArg (fun z => Outcome.returned (some (Value.int z))) (by unfold vdc; rw [if_pos c1, if_pos c2]), h9⟩) (fun _ h => nomatch h) d_P_verdict_33
    · refine lv_iload_n hx hb d_P_verdict_17 rfl (lv_at hl 1 rfl) ?_
      refine lv_aload_n hx hb d_P_verdict_18 rfl (lv_at hl 0 rfl) ?_
      refine va_get (D := G.1) (ci := 0) (v := .ref d1) (C := R_P) (T := F_P) (N := 6) hx hb ht in_P hown hK hP 0 rfl rfl 0 (by decide) (ht _ kf_P_20) (fun _ h9 => h9) rfl d_P_verdict_19 ?_
      refine pr_i (ru_V (b := d1) (As := []) (rest := [.int p1]) ⟨hx, hb, hml, hown, ht⟩ hKN (c_D_allBits l G _ d1 d2 sd k n fb f (hP.sub [1, 2] rfl) hn) kc_P_45 ⟨rfl, rfl⟩ ⟨Nat.le_of_ble_eq_true rfl, Nat.le_of_ble_eq_true rfl⟩ (va_recv hK hP (ci := 1) (q0 := 1) rfl rfl) rfl hl.1 rfl (Nat.le_of_ble_eq_true rfl) d_P_verdict_22 ⟨Nat.le_of_ble_eq_true rfl, Nat.le_of_ble_eq_true rfl⟩) ?_
      refine lv_iconst (v := (-1)) hx hb d_P_verdict_25 (by decide) ?_
      refine lv_ixor hx hb d_P_verdict_26 ?_
      refine lv_iand hx hb d_P_verdict_27 ?_
      refine lv_if_eq (tgt := 34) hx hb d_P_verdict_28 (by decide) (fun c3 => ?_) (fun c3 => ?_)
      · exact absurd (by unfold vdc; rw [if_pos c1, if_neg c2, if_pos c3]) hvd
      · refine lv_bipush (v := (-12)) hx hb d_P_verdict_31 (by decide) ?_
        exact W.iret (v := (-12)) hx hb hr (fun t h9 _ => ⟨congrArg (fun z => Outcome.returned (some (Value.int z))) (by unfold vdc; rw [if_pos c1, if_neg c2, if_neg c3]), h9⟩) (fun _ h => nomatch h) d_P_verdict_33
  · refine lv_bipush (v := (-13)) hx hb d_P_verdict_10 (by decide) ?_
    exact W.iret (v := (-13)) hx hb hr (fun t h9 _ => ⟨congrArg (fun z => Outcome.returned (some (Value.int z))) (by unfold vdc; rw [if_neg c1]), h9⟩) (fun _ h => nomatch h) d_P_verdict_12
def vdr (g : Nat → Int32) (q : Nat) (x : Int32) : Int32 := if tlr g q x = 0 then -14 else nI (tln g q x)
set_option maxHeartbeats 4000000 in
set_option maxRecDepth 100000 in
theorem c_P_verdict (l : Launch) (G : GT) (H : Heap) (a : Nat) (d1 : Nat) (d2 : Nat) (v1 : Nat) (v2 : Nat) (v3 : Nat) (o1 : Nat) (t1 : Nat) (sd : Int64) (k : Int32) (n : Nat) (fb : Int32) (f : Nat → Int64) (g : Nat → Int32) (h : Nat → Int32) (q : Nat) (ns : Int64) (lb : Int32) (p1 : Int32) (p2 : Int32) (hP : va_P G.1 classes [(a, .inr (0, [.ref d1, .ref v1, .ref o1, .ref t1, .long ns, .int lb])), (d1, .inr (1, [.ref d2, .long sd, .int k, .int (nI n), .int fb])), (d2, .inl (G.2.1, 16, .inr (.inl f))), (v1, .inr (2, [.ref v2, .ref v3, .int (nI q)])), (v2, .inl (G.2.2.1, 100, .inl g)), (v3, .inl (G.2.2.2, 100, .inl h))] H) (hD0 : va_D (fun _ => True) [(a, .inr (0, [.ref d1, .ref v1, .ref o1, .ref t1, .long ns, .int lb])), (d1, .inr (1, [.ref d2, .long sd, .int k, .int (nI n), .int fb])), (d2, .inl (G.2.1, 16, .inr (.inl f))), (v1, .inr (2, [.ref v2, .ref v3, .int (nI q)])), (v2, .inl (G.2.2.1, 100, .inl g)), (v3, .inl (G.2.2.2, 100, .inl h))]) (hn : n ≤ 16) (hq : q ≤ 100) (hvd : vdc n p1 = 0) : Met l y_P_verdict (Cond.code y_P_verdict b_P_verdict 3 (some .int) :: TG) ({ frames := 2, cells := 0, slots := 0, locals := 45 }) (PC G H [.ref a, .int p1, .int p2]) (QMi G (vdr g q p1) [(a, .inr (0, [.ref d1, .ref v1, .ref o1, .ref t1, .long ns, .int lb])), (d1, .inr (1, [.ref d2, .long sd, .int k, .int (nI n), .int fb])), (d2, .inl (G.2.1, 16, .inr (.inl f))), (v1, .inr (2, [.ref v2, .ref v3, .int (nI (tln g q p1))])), (v2, .inl (G.2.2.1, 100, .inl (tlg g q p1))), (v3, .inl (G.2.2.2, 100, .inl (tlh g h q p1 p2)))] (va_A [(a, .inr (0, [.ref d1, .ref v1, .ref o1, .ref t1, .long ns, .int lb])), (d1, .inr (1, [.ref d2, .long sd, .int k, .int (nI n), .int fb])), (d2, .inl (G.2.1, 16, .inr (.inl f))), (v1, .inr (2, [.ref v2, .ref v3, .int (nI q)])), (v2, .inl (G.2.2.1, 100, .inl g)), (v3, .inl (G.2.2.2, 100, .inl h))] H.size)) 0 0 (va_A [(a, .inr (0, [.ref d1, .ref v1, .ref o1, .ref t1, .long ns, .int lb])), (d1, .inr (1, [.ref d2, .long sd, .int k, .int (nI n), .int fb])), (d2, .inl (G.2.1, 16, .inr (.inl f))), (v1, .inr (2, [.ref v2, .ref v3, .int (nI q)])), (v2, .inl (G.2.2.1, 100, .inl g)), (v3, .inl (G.2.2.2, 100, .inl h))] H.size) := by
  refine Met.ofW (cc := b_P_verdict) (maxL := 3) (ret := (some .int)) (by decide) rfl ?_
  intro p e s m args below meth c s₁ B hml hv
  obtain ⟨rfl, hH, hKN⟩ := hv
  subst hH
  have hx := B.exec
  have hb := B.bytes
  have hr := B.returns
  have hts := atoms_spec (ws := (Cond.code y_P_verdict b_P_verdict 3 (some .int) :: TG)) B.pre
  have ht : ∀ w ∈ TG, w.before _ s = true := fun w h => hts w (List.mem_cons_of_mem _ h)
  have hown : s.vm.findClass R_P = some m.cls := findClass_of_methodNamed B.named
  have hlocks := B.notSynchronized
  have hK := hKN.1
  have hl := lv_entry ([.ref a, .int p1, .int p2]) (n := 3) (Nat.le_of_ble_eq_true rfl)
  rw [lg_entry_eq]
  generalize (lg_sl ([.ref a, .int p1, .int p2]) ++ List.replicate (3 - (lg_sl ([.ref a, .int p1, .int p2])).length) Slot.unset).toArray = ls at hl ⊢
  have hl : lv_has ls 3 [(0, .ref a), (1, .int p1), (2, .int p2)] := hl
  have hD := hD0.self (sz := s.heap.size)
  generalize hAe : va_A [(a, .inr (0, [.ref d1, .ref v1, .ref o1, .ref t1, .long ns, .int lb])), (d1, .inr (1, [.ref d2, .long sd, .int k, .int (nI n), .int fb])), (d2, .inl (G.2.1, 16, .inr (.inl f))), (v1, .inr (2, [.ref v2, .ref v3, .int (nI q)])), (v2, .inl (G.2.2.1, 100, .inl g)), (v3, .inl (G.2.2.2, 100, .inl h))] s.heap.size = A at hD ⊢
  have hA : ∀ q : Nat, s.heap.size ≤ q → A q := fun q h => by rw [← hAe]; exact Or.inr h
  have hS : va_S A s.heap s.heap [] := va_S.rf
  refine lv_aload_n hx hb d_P_verdict_0 rfl (lv_at hl 0 rfl) ?_
  refine va_get (D := G.1) (ci := 0) (v := .ref d1) (C := R_P) (T := F_P) (N := 6) hx hb ht in_P hown hK hP 0 rfl rfl 0 (by decide) (ht _ kf_P_20) (fun _ h9 => h9) rfl d_P_verdict_1 ?_
  refine pr_i (ru_V (b := d1) (As := []) (rest := []) ⟨hx, hb, hml, hown, ht⟩ hKN (c_D_isEmpty l G _ d1 d2 sd k n fb f (hP.sub [1, 2] rfl) hn) kc_P_80 ⟨rfl, rfl⟩ ⟨Nat.le_of_ble_eq_true rfl, Nat.le_of_ble_eq_true rfl⟩ (va_recv hK hP (ci := 1) (q0 := 1) rfl rfl) rfl hl.1 rfl (Nat.le_of_ble_eq_true rfl) d_P_verdict_4 ⟨Nat.le_of_ble_eq_true rfl, Nat.le_of_ble_eq_true rfl⟩) ?_
  refine lv_if_eq (tgt := 13) hx hb d_P_verdict_7 (by decide) (fun c1 => ?_) (fun c1 => ?_)
  · refine lv_iload_n hx hb d_P_verdict_13 rfl (lv_at hl 1 rfl) ?_
    refine lv_if_eq (tgt := 31) hx hb d_P_verdict_14 (by decide) (fun c2 => ?_) (fun c2 => ?_)
    · exact absurd (hvd.symm.trans (by unfold vdc; rw [if_pos c1, if_pos c2])) (by decide)
    · refine lv_iload_n hx hb d_P_verdict_17 rfl (lv_at hl 1 rfl) ?_
      refine lv_aload_n hx hb d_P_verdict_18 rfl (lv_at hl 0 rfl) ?_
      refine va_get (D := G.1) (ci := 0) (v := .ref d1) (C := R_P) (T := F_P) (N := 6) hx hb ht in_P hown hK hP 0 rfl rfl 0 (by decide) (ht _ kf_P_20) (fun _ h9 => h9) rfl d_P_verdict_19 ?_
      refine pr_i (ru_V (b := d1) (As := []) (rest := [.int p1]) ⟨hx, hb, hml, hown, ht⟩ hKN (c_D_allBits l G _ d1 d2 sd k n fb f (hP.sub [1, 2] rfl) hn) kc_P_45 ⟨rfl, rfl⟩ ⟨Nat.le_of_ble_eq_true rfl, Nat.le_of_ble_eq_true rfl⟩ (va_recv hK hP (ci := 1) (q0 := 1) rfl rfl) rfl hl.1 rfl (Nat.le_of_ble_eq_true rfl) d_P_verdict_22 ⟨Nat.le_of_ble_eq_true rfl, Nat.le_of_ble_eq_true rfl⟩) ?_
      refine lv_iconst (v := (-1)) hx hb d_P_verdict_25 (by decide) ?_
      refine lv_ixor hx hb d_P_verdict_26 ?_
      refine lv_iand hx hb d_P_verdict_27 ?_
      refine lv_if_eq (tgt := 34) hx hb d_P_verdict_28 (by decide) (fun c3 => ?_) (fun c3 => ?_)
      · refine lv_aload_n hx hb d_P_verdict_34 rfl (lv_at hl 0 rfl) ?_
        refine va_get (D := G.1) (ci := 0) (v := .ref v1) (C := R_P) (T := F_P) (N := 6) hx hb ht in_P hown hK hP 0 rfl rfl 1 (by decide) (ht _ kf_P_33) (fun _ h9 => h9) rfl d_P_verdict_35 ?_
        refine lv_iload_n hx hb d_P_verdict_38 rfl (lv_at hl 1 rfl) ?_
        refine lv_iload_n hx hb d_P_verdict_39 rfl (lv_at hl 2 rfl) ?_
        refine mu_i (wr := [(a, .inr (0, [.ref d1, .ref v1, .ref o1, .ref t1, .long ns, .int lb])), (d1, .inr (1, [.ref d2, .long sd, .int k, .int (nI n), .int fb])), (d2, .inl (G.2.1, 16, .inr (.inl f)))]) (wn := [(a, .inr (0, [.ref d1, .ref v1, .ref o1, .ref t1, .long ns, .int lb])), (d1, .inr (1, [.ref d2, .long sd, .int k, .int (nI n), .int fb])), (d2, .inl (G.2.1, 16, .inr (.inl f))), (v1, .inr (2, [.ref v2, .ref v3, .int (nI (tln g q p1))])), (v2, .inl (G.2.2.1, 100, .inl (tlg g q p1))), (v3, .inl (G.2.2.2, 100, .inl (tlh g h q p1 p2)))]) (ru_V (b := v1) (As := [.int p1, .int p2]) (rest := []) ⟨hx, hb, hml, hown, ht⟩ hKN (c_V_tell l G _ v1 v2 v3 g h q p1 p2 (hP.sub [3, 4, 5] rfl) ((hD.sub (ws' := [(v1, .inr (2, [.ref v2, .ref v3, .int (nI q)])), (v2, .inl (G.2.2.1, 100, .inl g)), (v3, .inl (G.2.2.2, 100, .inl h))]) [3, 4, 5] (by decide) rfl).weaken (fun _ _ _ _ => trivial)) hq) kc_P_84 ⟨rfl, rfl⟩ ⟨Nat.le_of_ble_eq_true rfl, Nat.le_of_ble_eq_true rfl⟩ (va_recv hK hP (ci := 2) (q0 := 3) rfl rfl) rfl hl.1 rfl (Nat.le_of_ble_eq_true rfl) d_P_verdict_40 ⟨Nat.le_of_ble_eq_true rfl, Nat.le_of_ble_eq_true rfl⟩) hP hD hS hA [3, 4, 5] [0, 1, 2] [0, 1, 2, 3, 4, 5] rfl rfl ⟨by decide, by decide, by decide⟩ (by decide) rfl rfl (fun H locs hP hD hS => ?_)
        refine lv_if_eq (tgt := 56) hx hb d_P_verdict_43 (by decide) (fun c4 => ?_) (fun c4 => ?_)
        · refine lv_bipush (v := (-14)) hx hb d_P_verdict_56 (by decide) ?_
          exact W.iret (v := (-14)) hx hb hr (fun t h9 _ => ⟨⟨(-14), (), rfl, (by unfold vdr; rw [if_pos c4]), by show va_P _ _ _ t.heap; rw [h9]; exact hP⟩, hS.F h9⟩) hS.2.2 d_P_verdict_58
        · refine lv_aload_n hx hb d_P_verdict_46 rfl (lv_at hl 0 rfl) ?_
          refine va_get (D := G.1) (ci := 0) (v := .ref v1) (C := R_P) (T := F_P) (N := 6) hx hb ht in_P hown hK hP 0 rfl rfl 1 (by decide) (ht _ kf_P_33) (fun _ h9 => h9) rfl d_P_verdict_47 ?_
          refine va_getN (D := G.1) (ci := 2) (v := .int (nI (tln g q p1))) (C := R_V) (T := F_V) (N := 3) hx hb ht in_V hown hK hP 3 rfl rfl 2 (by decide) (va_Nw.use rfl (hKN.2 _ kn_P_88 rfl)) (fun _ h9 => h9) rfl d_P_verdict_50 ?_
          refine lv_goto (tgt := 58) hx hb d_P_verdict_53 (by decide) ?_
          exact W.iret (v := nI (tln g q p1)) hx hb hr (fun t h9 _ => ⟨⟨nI (tln g q p1), (), rfl, (by unfold vdr; rw [if_neg c4]), by show va_P _ _ _ t.heap; rw [h9]; exact hP⟩, hS.F h9⟩) hS.2.2 d_P_verdict_58
      · exact absurd (hvd.symm.trans (by unfold vdc; rw [if_pos c1, if_neg c2, if_neg c3])) (by decide)
  · exact absurd (hvd.symm.trans (by unfold vdc; rw [if_neg c1])) (by decide)
