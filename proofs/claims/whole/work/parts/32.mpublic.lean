set_option maxHeartbeats 4000000 in
set_option maxRecDepth 100000 in
theorem c_M_seed (l : Launch) (G : GT) (H : Heap) (a : Nat) (w1 : Nat) (w2 : Nat) (w3 : Nat) (ns : Int64) (sd : Int64) (n : Nat) (k : Int32) (lb : Int32) (q : Nat) (g : Nat → Int32) (h : Nat → Int32) (ik : Nat → Int32) (s1 : Int64) (hP : va_P G.1 classes [(a, .inr (3, [.int 0, .long ns, .long sd, .int (nI n), .int k, .int lb, .int (nI q), .ref w1, .ref w2, .ref w3])), (w1, .inl (G.2.2.1, 100, .inl g)), (w2, .inl (G.2.2.2, 100, .inl h)), (w3, .inl (G.2.2.1, 10, .inl ik))] H) (hD0 : va_D (fun _ => True) [(a, .inr (3, [.int 0, .long ns, .long sd, .int (nI n), .int k, .int lb, .int (nI q), .ref w1, .ref w2, .ref w3])), (w1, .inl (G.2.2.1, 100, .inl g)), (w2, .inl (G.2.2.2, 100, .inl h)), (w3, .inl (G.2.2.1, 10, .inl ik))]) (hn : n ≤ 16) (hq : q ≤ 100) : Met l y_M_seed (Cond.code y_M_seed b_M_seed 5 (some .long) :: TG) ({ frames := 0, cells := 0, slots := 0, locals := 0 }) (PC G H [.ref a, .long s1]) (QMl G (ns) [(a, .inr (3, [.int 0, .long s1, .long sd, .int (nI n), .int k, .int lb, .int (nI q), .ref w1, .ref w2, .ref w3])), (w1, .inl (G.2.2.1, 100, .inl g)), (w2, .inl (G.2.2.2, 100, .inl h)), (w3, .inl (G.2.2.1, 10, .inl ik))] (va_A [(a, .inr (3, [.int 0, .long ns, .long sd, .int (nI n), .int k, .int lb, .int (nI q), .ref w1, .ref w2, .ref w3])), (w1, .inl (G.2.2.1, 100, .inl g)), (w2, .inl (G.2.2.2, 100, .inl h)), (w3, .inl (G.2.2.1, 10, .inl ik))] H.size)) 0 0 (va_A [(a, .inr (3, [.int 0, .long ns, .long sd, .int (nI n), .int k, .int lb, .int (nI q), .ref w1, .ref w2, .ref w3])), (w1, .inl (G.2.2.1, 100, .inl g)), (w2, .inl (G.2.2.2, 100, .inl h)), (w3, .inl (G.2.2.1, 10, .inl ik))] H.size) := by
  refine Met.ofW (cc := b_M_seed) (maxL := 5) (ret := (some .long)) (by decide) rfl ?_
  intro p e s m args below meth c s₁ B hml hv
  obtain ⟨rfl, hH, hKN⟩ := hv
  subst hH
  have hx := B.exec
  have hb := B.bytes
  have hr := B.returns
  have hts := atoms_spec (ws := (Cond.code y_M_seed b_M_seed 5 (some .long) :: TG)) B.pre
  have ht : ∀ w ∈ TG, w.before _ s = true := fun w h => hts w (List.mem_cons_of_mem _ h)
  have hown : s.vm.findClass R_M = some m.cls := findClass_of_methodNamed B.named
  have hlocks := B.notSynchronized
  have hK := hKN.1
  have hl := lv_entry ([.ref a, .long s1]) (n := 5) (Nat.le_of_ble_eq_true rfl)
  rw [lg_entry_eq]
  generalize (lg_sl ([.ref a, .long s1]) ++ List.replicate (5 - (lg_sl ([.ref a, .long s1])).length) Slot.unset).toArray = ls at hl ⊢
  have hl : lv_has ls 5 [(0, .ref a), (1, .long s1)] := hl
  have hD := hD0.self (sz := s.heap.size)
  generalize hAe : va_A [(a, .inr (3, [.int 0, .long ns, .long sd, .int (nI n), .int k, .int lb, .int (nI q), .ref w1, .ref w2, .ref w3])), (w1, .inl (G.2.2.1, 100, .inl g)), (w2, .inl (G.2.2.2, 100, .inl h)), (w3, .inl (G.2.2.1, 10, .inl ik))] s.heap.size = A at hD ⊢
  have hA : ∀ q : Nat, s.heap.size ≤ q → A q := fun q h => by rw [← hAe]; exact Or.inr h
  have hS : va_S A s.heap s.heap [] := va_S.rf
  refine lv_aload_n hx hb d_M_seed_0 rfl (lv_at hl 0 rfl) ?_
  refine lv_iconst (v := 0) hx hb d_M_seed_1 (by decide) ?_
  refine va_put (D := G.1) (ci := 3) (v := .int 0) (ty := .int) (C := R_M) (T := F_M) (N := 10) hx hb ht in_M t_M tk_M n_M hown hK hP hD hS 0 rfl rfl 0 (by decide) (ht _ kf_M_24) (fun _ h9 => h9) rfl (by decide +kernel) rfl rfl (Nat.le_of_ble_eq_true rfl) d_M_seed_2 (fun H locs hP hD hS => ?_)
  have hP : va_P G.1 classes [(a, .inr (3, [.int 0, .long ns, .long sd, .int (nI n), .int k, .int lb, .int (nI q), .ref w1, .ref w2, .ref w3])), (w1, .inl (G.2.2.1, 100, .inl g)), (w2, .inl (G.2.2.2, 100, .inl h)), (w3, .inl (G.2.2.1, 10, .inl ik))] H := hP
  have hD : va_D A [(a, .inr (3, [.int 0, .long ns, .long sd, .int (nI n), .int k, .int lb, .int (nI q), .ref w1, .ref w2, .ref w3])), (w1, .inl (G.2.2.1, 100, .inl g)), (w2, .inl (G.2.2.2, 100, .inl h)), (w3, .inl (G.2.2.1, 10, .inl ik))] := hD
  refine lv_aload_n hx hb d_M_seed_5 rfl (lv_at hl 0 rfl) ?_
  refine va_get (D := G.1) (ci := 3) (v := .long ns) (C := R_M) (T := F_M) (N := 10) hx hb ht in_M hown hK hP 0 rfl rfl 1 (by decide) (ht _ kf_M_20) (fun _ h9 => h9) rfl d_M_seed_6 ?_
  refine lv_lstore_n (lv' := [(3, .long ns), (0, .ref a), (1, .long s1)]) hx hb d_M_seed_9 rfl hl (by decide) rfl (fun ls hl => ?_)
  refine lv_aload_n hx hb d_M_seed_10 rfl (lv_at hl 1 rfl) ?_
  refine lv_lload_n hx hb d_M_seed_11 rfl (lv_at hl 2 rfl) ?_
  refine va_put (D := G.1) (ci := 3) (v := .long s1) (ty := .long) (C := R_M) (T := F_M) (N := 10) hx hb ht in_M t_M tk_M n_M hown hK hP hD hS 0 rfl rfl 1 (by decide) (ht _ kf_M_20) (fun _ h9 => h9) rfl (by decide +kernel) rfl rfl (Nat.le_of_ble_eq_true rfl) d_M_seed_12 (fun H locs hP hD hS => ?_)
  have hP : va_P G.1 classes [(a, .inr (3, [.int 0, .long s1, .long sd, .int (nI n), .int k, .int lb, .int (nI q), .ref w1, .ref w2, .ref w3])), (w1, .inl (G.2.2.1, 100, .inl g)), (w2, .inl (G.2.2.2, 100, .inl h)), (w3, .inl (G.2.2.1, 10, .inl ik))] H := hP
  have hD : va_D A [(a, .inr (3, [.int 0, .long s1, .long sd, .int (nI n), .int k, .int lb, .int (nI q), .ref w1, .ref w2, .ref w3])), (w1, .inl (G.2.2.1, 100, .inl g)), (w2, .inl (G.2.2.2, 100, .inl h)), (w3, .inl (G.2.2.1, 10, .inl ik))] := hD
  refine lv_lload_n hx hb d_M_seed_15 rfl (lv_at hl 0 rfl) ?_
  exact W.lret (v := ns) hx hb hr (fun t h9 _ => ⟨⟨ns, (), rfl, rfl, by show va_P _ _ _ t.heap; rw [h9]; exact hP⟩, hS.F h9⟩) hS.2.2 d_M_seed_16
def mdr (p1 p2 : Int32) : Int32 := if fn_M_in p1 0 4 = 0 then 0 else if fn_M_in p2 0 15 = 0 then 0 else 1
set_option maxHeartbeats 4000000 in
set_option maxRecDepth 100000 in
theorem c_M_draw_no (l : Launch) (G : GT) (H : Heap) (a : Nat) (w1 : Nat) (w2 : Nat) (w3 : Nat) (ns : Int64) (sd : Int64) (n : Nat) (k : Int32) (lb : Int32) (q : Nat) (g : Nat → Int32) (h : Nat → Int32) (ik : Nat → Int32) (p1 : Int32) (p2 : Int32) (hP : va_P G.1 classes [(a, .inr (3, [.int 0, .long ns, .long sd, .int (nI n), .int k, .int lb, .int (nI q), .ref w1, .ref w2, .ref w3])), (w1, .inl (G.2.2.1, 100, .inl g)), (w2, .inl (G.2.2.2, 100, .inl h)), (w3, .inl (G.2.2.1, 10, .inl ik))] H) (hD0 : va_D (fun _ => True) [(a, .inr (3, [.int 0, .long ns, .long sd, .int (nI n), .int k, .int lb, .int (nI q), .ref w1, .ref w2, .ref w3])), (w1, .inl (G.2.2.1, 100, .inl g)), (w2, .inl (G.2.2.2, 100, .inl h)), (w3, .inl (G.2.2.1, 10, .inl ik))]) (hn : n ≤ 16) (hq : q ≤ 100) (hdr : mdr p1 p2 = 0) : Met l y_M_draw (Cond.code y_M_draw b_M_draw 3 (some .int) :: TG) ({ frames := 1, cells := 0, slots := 0, locals := 22 }) (PC G H [.ref a, .int p1, .int p2]) (QMi G (-12) [(a, .inr (3, [.int 0, .long ns, .long sd, .int (nI n), .int k, .int lb, .int (nI q), .ref w1, .ref w2, .ref w3])), (w1, .inl (G.2.2.1, 100, .inl g)), (w2, .inl (G.2.2.2, 100, .inl h)), (w3, .inl (G.2.2.1, 10, .inl ik))] (va_A [(a, .inr (3, [.int 0, .long ns, .long sd, .int (nI n), .int k, .int lb, .int (nI q), .ref w1, .ref w2, .ref w3])), (w1, .inl (G.2.2.1, 100, .inl g)), (w2, .inl (G.2.2.2, 100, .inl h)), (w3, .inl (G.2.2.1, 10, .inl ik))] H.size)) 0 0 (va_A [(a, .inr (3, [.int 0, .long ns, .long sd, .int (nI n), .int k, .int lb, .int (nI q), .ref w1, .ref w2, .ref w3])), (w1, .inl (G.2.2.1, 100, .inl g)), (w2, .inl (G.2.2.2, 100, .inl h)), (w3, .inl (G.2.2.1, 10, .inl ik))] H.size) := by
  refine Met.ofW (cc := b_M_draw) (maxL := 3) (ret := (some .int)) (by decide) rfl ?_
  intro p e s m args below meth c s₁ B hml hv
  obtain ⟨rfl, hH, hKN⟩ := hv
  subst hH
  have hx := B.exec
  have hb := B.bytes
  have hr := B.returns
  have hts := atoms_spec (ws := (Cond.code y_M_draw b_M_draw 3 (some .int) :: TG)) B.pre
  have ht : ∀ w ∈ TG, w.before _ s = true := fun w h => hts w (List.mem_cons_of_mem _ h)
  have hown : s.vm.findClass R_M = some m.cls := findClass_of_methodNamed B.named
  have hlocks := B.notSynchronized
  have hK := hKN.1
  have hl := lv_entry ([.ref a, .int p1, .int p2]) (n := 3) (Nat.le_of_ble_eq_true rfl)
  rw [lg_entry_eq]
  generalize (lg_sl ([.ref a, .int p1, .int p2]) ++ List.replicate (3 - (lg_sl ([.ref a, .int p1, .int p2])).length) Slot.unset).toArray = ls at hl ⊢
  have hl : lv_has ls 3 [(0, .ref a), (1, .int p1), (2, .int p2)] := hl
  have hD := hD0.self (sz := s.heap.size)
  generalize hAe : va_A [(a, .inr (3, [.int 0, .long ns, .long sd, .int (nI n), .int k, .int lb, .int (nI q), .ref w1, .ref w2, .ref w3])), (w1, .inl (G.2.2.1, 100, .inl g)), (w2, .inl (G.2.2.2, 100, .inl h)), (w3, .inl (G.2.2.1, 10, .inl ik))] s.heap.size = A at hD ⊢
  have hA : ∀ q : Nat, s.heap.size ≤ q → A q := fun q h => by rw [← hAe]; exact Or.inr h
  have hS : va_S A s.heap s.heap [] := va_S.rf
  refine lv_aload_n hx hb d_M_draw_0 rfl (lv_at hl 0 rfl) ?_
  refine lv_iconst (v := 0) hx hb d_M_draw_1 (by decide) ?_
  refine va_put (D := G.1) (ci := 3) (v := .int 0) (ty := .int) (C := R_M) (T := F_M) (N := 10) hx hb ht in_M t_M tk_M n_M hown hK hP hD hS 0 rfl rfl 0 (by decide) (ht _ kf_M_24) (fun _ h9 => h9) rfl (by decide +kernel) rfl rfl (Nat.le_of_ble_eq_true rfl) d_M_draw_2 (fun H locs hP hD hS => ?_)
  have hP : va_P G.1 classes [(a, .inr (3, [.int 0, .long ns, .long sd, .int (nI n), .int k, .int lb, .int (nI q), .ref w1, .ref w2, .ref w3])), (w1, .inl (G.2.2.1, 100, .inl g)), (w2, .inl (G.2.2.2, 100, .inl h)), (w3, .inl (G.2.2.1, 10, .inl ik))] H := hP
  have hD : va_D A [(a, .inr (3, [.int 0, .long ns, .long sd, .int (nI n), .int k, .int lb, .int (nI q), .ref w1, .ref w2, .ref w3])), (w1, .inl (G.2.2.1, 100, .inl g)), (w2, .inl (G.2.2.2, 100, .inl h)), (w3, .inl (G.2.2.1, 10, .inl ik))] := hD
  refine lv_iload_n hx hb d_M_draw_5 rfl (lv_at hl 1 rfl) ?_
  refine lv_iconst (v := 0) hx hb d_M_draw_6 (by decide) ?_
  refine lv_iconst (v := 4) hx hb d_M_draw_7 (by decide) ?_
  refine pr_i (ru_S (As := [.int p1, .int 0, .int 4]) (rest := []) ⟨hx, hb, hml, hown, ht⟩ hKN (c_M_in l G _ p1 0 4) kc_M_52 ⟨rfl, rfl⟩ ⟨Nat.le_of_ble_eq_true rfl, Nat.le_of_ble_eq_true rfl⟩ rfl hl.1 rfl (Nat.le_of_ble_eq_true rfl) d_M_draw_8 ⟨Nat.le_of_ble_eq_true rfl, Nat.le_of_ble_eq_true rfl⟩) ?_
  refine lv_if_eq (tgt := 24) hx hb d_M_draw_11 (by decide) (fun c1 => ?_) (fun c1 => ?_)
  · refine lv_bipush (v := (-12)) hx hb d_M_draw_24 (by decide) ?_
    exact W.iret (v := (-12)) hx hb hr (fun t h9 _ => ⟨⟨(-12), (), rfl, rfl, by show va_P _ _ _ t.heap; rw [h9]; exact hP⟩, hS.F h9⟩) hS.2.2 d_M_draw_26
  · refine lv_iload_n hx hb d_M_draw_14 rfl (lv_at hl 2 rfl) ?_
    refine lv_iconst (v := 0) hx hb d_M_draw_15 (by decide) ?_
    refine lv_bipush (v := 15) hx hb d_M_draw_16 (by decide) ?_
    refine pr_i (ru_S (As := [.int p2, .int 0, .int 15]) (rest := []) ⟨hx, hb, hml, hown, ht⟩ hKN (c_M_in l G _ p2 0 15) kc_M_52 ⟨rfl, rfl⟩ ⟨Nat.le_of_ble_eq_true rfl, Nat.le_of_ble_eq_true rfl⟩ rfl hl.1 rfl (Nat.le_of_ble_eq_true rfl) d_M_draw_18 ⟨Nat.le_of_ble_eq_true rfl, Nat.le_of_ble_eq_true rfl⟩) ?_
    refine lv_if_ne (tgt := 27) hx hb d_M_draw_21 (by decide) (fun c2 => ?_) (fun c2 => ?_)
    · exact absurd (hdr.symm.trans (by unfold mdr; rw [if_neg c1, if_neg c2])) (by decide)
    · refine lv_bipush (v := (-12)) hx hb d_M_draw_24 (by decide) ?_
      exact W.iret (v := (-12)) hx hb hr (fun t h9 _ => ⟨⟨(-12), (), rfl, rfl, by show va_P _ _ _ t.heap; rw [h9]; exact hP⟩, hS.F h9⟩) hS.2.2 d_M_draw_26
set_option maxHeartbeats 4000000 in
set_option maxRecDepth 100000 in
theorem c_M_draw (l : Launch) (G : GT) (H : Heap) (a : Nat) (w1 : Nat) (w2 : Nat) (w3 : Nat) (ns : Int64) (sd : Int64) (n : Nat) (k : Int32) (lb : Int32) (q : Nat) (g : Nat → Int32) (h : Nat → Int32) (ik : Nat → Int32) (p1 : Int32) (p2 : Nat) (hP : va_P G.1 classes [(a, .inr (3, [.int 0, .long ns, .long sd, .int (nI n), .int k, .int lb, .int (nI q), .ref w1, .ref w2, .ref w3])), (w1, .inl (G.2.2.1, 100, .inl g)), (w2, .inl (G.2.2.2, 100, .inl h)), (w3, .inl (G.2.2.1, 10, .inl ik))] H) (hD0 : va_D (fun _ => True) [(a, .inr (3, [.int 0, .long ns, .long sd, .int (nI n), .int k, .int lb, .int (nI q), .ref w1, .ref w2, .ref w3])), (w1, .inl (G.2.2.1, 100, .inl g)), (w2, .inl (G.2.2.2, 100, .inl h)), (w3, .inl (G.2.2.1, 10, .inl ik))]) (hn : n ≤ 16) (hq : q ≤ 100) (hdr : ¬ mdr p1 (nI p2) = 0) : Met l y_M_draw (Cond.code y_M_draw b_M_draw 3 (some .int) :: TG) ({ frames := 1, cells := 0, slots := 0, locals := 22 }) (PC G H [.ref a, .int p1, .int (nI p2)]) (QMi G (nI (p2 + 1)) [(a, .inr (3, [.int 0, .long ns, .long ns, .int (nI (p2 + 1)), .int p1, .int (((1 : Int32) <<< (nI (p2 + 1) &&& 31)) - 1), .int (nI 0), .ref w1, .ref w2, .ref w3])), (w1, .inl (G.2.2.1, 100, .inl g)), (w2, .inl (G.2.2.2, 100, .inl h)), (w3, .inl (G.2.2.1, 10, .inl ik))] (va_A [(a, .inr (3, [.int 0, .long ns, .long sd, .int (nI n), .int k, .int lb, .int (nI q), .ref w1, .ref w2, .ref w3])), (w1, .inl (G.2.2.1, 100, .inl g)), (w2, .inl (G.2.2.2, 100, .inl h)), (w3, .inl (G.2.2.1, 10, .inl ik))] H.size)) 0 0 (va_A [(a, .inr (3, [.int 0, .long ns, .long sd, .int (nI n), .int k, .int lb, .int (nI q), .ref w1, .ref w2, .ref w3])), (w1, .inl (G.2.2.1, 100, .inl g)), (w2, .inl (G.2.2.2, 100, .inl h)), (w3, .inl (G.2.2.1, 10, .inl ik))] H.size) := by
  refine Met.ofW (cc := b_M_draw) (maxL := 3) (ret := (some .int)) (by decide) rfl ?_
  intro p e s m args below meth c s₁ B hml hv
  obtain ⟨rfl, hH, hKN⟩ := hv
  subst hH
  have hx := B.exec
  have hb := B.bytes
  have hr := B.returns
  have hts := atoms_spec (ws := (Cond.code y_M_draw b_M_draw 3 (some .int) :: TG)) B.pre
  have ht : ∀ w ∈ TG, w.before _ s = true := fun w h => hts w (List.mem_cons_of_mem _ h)
  have hown : s.vm.findClass R_M = some m.cls := findClass_of_methodNamed B.named
  have hlocks := B.notSynchronized
  have hK := hKN.1
  have hl := lv_entry ([.ref a, .int p1, .int (nI p2)]) (n := 3) (Nat.le_of_ble_eq_true rfl)
  rw [lg_entry_eq]
  generalize (lg_sl ([.ref a, .int p1, .int (nI p2)]) ++ List.replicate (3 - (lg_sl ([.ref a, .int p1, .int (nI p2)])).length) Slot.unset).toArray = ls at hl ⊢
  have hl : lv_has ls 3 [(0, .ref a), (1, .int p1), (2, .int (nI p2))] := hl
  have hD := hD0.self (sz := s.heap.size)
  generalize hAe : va_A [(a, .inr (3, [.int 0, .long ns, .long sd, .int (nI n), .int k, .int lb, .int (nI q), .ref w1, .ref w2, .ref w3])), (w1, .inl (G.2.2.1, 100, .inl g)), (w2, .inl (G.2.2.2, 100, .inl h)), (w3, .inl (G.2.2.1, 10, .inl ik))] s.heap.size = A at hD ⊢
  have hA : ∀ q : Nat, s.heap.size ≤ q → A q := fun q h => by rw [← hAe]; exact Or.inr h
  have hS : va_S A s.heap s.heap [] := va_S.rf
  refine lv_aload_n hx hb d_M_draw_0 rfl (lv_at hl 0 rfl) ?_
  refine lv_iconst (v := 0) hx hb d_M_draw_1 (by decide) ?_
  refine va_put (D := G.1) (ci := 3) (v := .int 0) (ty := .int) (C := R_M) (T := F_M) (N := 10) hx hb ht in_M t_M tk_M n_M hown hK hP hD hS 0 rfl rfl 0 (by decide) (ht _ kf_M_24) (fun _ h9 => h9) rfl (by decide +kernel) rfl rfl (Nat.le_of_ble_eq_true rfl) d_M_draw_2 (fun H locs hP hD hS => ?_)
  have hP : va_P G.1 classes [(a, .inr (3, [.int 0, .long ns, .long sd, .int (nI n), .int k, .int lb, .int (nI q), .ref w1, .ref w2, .ref w3])), (w1, .inl (G.2.2.1, 100, .inl g)), (w2, .inl (G.2.2.2, 100, .inl h)), (w3, .inl (G.2.2.1, 10, .inl ik))] H := hP
  have hD : va_D A [(a, .inr (3, [.int 0, .long ns, .long sd, .int (nI n), .int k, .int lb, .int (nI q), .ref w1, .ref w2, .ref w3])), (w1, .inl (G.2.2.1, 100, .inl g)), (w2, .inl (G.2.2.2, 100, .inl h)), (w3, .inl (G.2.2.1, 10, .inl ik))] := hD
  refine lv_iload_n hx hb d_M_draw_5 rfl (lv_at hl 1 rfl) ?_
  refine lv_iconst (v := 0) hx hb d_M_draw_6 (by decide) ?_
  refine lv_iconst (v := 4) hx hb d_M_draw_7 (by decide) ?_
  refine pr_i (ru_S (As := [.int p1, .int 0, .int 4]) (rest := []) ⟨hx, hb, hml, hown, ht⟩ hKN (c_M_in l G _ p1 0 4) kc_M_52 ⟨rfl, rfl⟩ ⟨Nat.le_of_ble_eq_true rfl, Nat.le_of_ble_eq_true rfl⟩ rfl hl.1 rfl (Nat.le_of_ble_eq_true rfl) d_M_draw_8 ⟨Nat.le_of_ble_eq_true rfl, Nat.le_of_ble_eq_true rfl⟩) ?_
  refine lv_if_eq (tgt := 24) hx hb d_M_draw_11 (by decide) (fun c1 => ?_) (fun c1 => ?_)
  · exact absurd (by unfold mdr; rw [if_pos c1]) hdr
  · refine lv_iload_n hx hb d_M_draw_14 rfl (lv_at hl 2 rfl) ?_
    refine lv_iconst (v := 0) hx hb d_M_draw_15 (by decide) ?_
    refine lv_bipush (v := 15) hx hb d_M_draw_16 (by decide) ?_
    refine pr_i (ru_S (As := [.int (nI p2), .int 0, .int 15]) (rest := []) ⟨hx, hb, hml, hown, ht⟩ hKN (c_M_in l G _ (nI p2) 0 15) kc_M_52 ⟨rfl, rfl⟩ ⟨Nat.le_of_ble_eq_true rfl, Nat.le_of_ble_eq_true rfl⟩ rfl hl.1 rfl (Nat.le_of_ble_eq_true rfl) d_M_draw_18 ⟨Nat.le_of_ble_eq_true rfl, Nat.le_of_ble_eq_true rfl⟩) ?_
    refine lv_if_ne (tgt := 27) hx hb d_M_draw_21 (by decide) (fun c2 => ?_) (fun c2 => ?_)
    · refine lv_aload_n hx hb d_M_draw_27 rfl (lv_at hl 0 rfl) ?_
      refine lv_aload_n hx hb d_M_draw_28 rfl (lv_at hl 0 rfl) ?_
      refine va_get (D := G.1) (ci := 3) (v := .long ns) (C := R_M) (T := F_M) (N := 10) hx hb ht in_M hown hK hP 0 rfl rfl 1 (by decide) (ht _ kf_M_20) (fun _ h9 => h9) rfl d_M_draw_29 ?_
      refine va_put (D := G.1) (ci := 3) (v := .long ns) (ty := .long) (C := R_M) (T := F_M) (N := 10) hx hb ht in_M t_M tk_M n_M hown hK hP hD hS 0 rfl rfl 2 (by decide) (ht _ kf_M_56) (fun _ h9 => h9) rfl (by decide +kernel) rfl rfl (Nat.le_of_ble_eq_true rfl) d_M_draw_32 (fun H locs hP hD hS => ?_)
      have hP : va_P G.1 classes [(a, .inr (3, [.int 0, .long ns, .long ns, .int (nI n), .int k, .int lb, .int (nI q), .ref w1, .ref w2, .ref w3])), (w1, .inl (G.2.2.1, 100, .inl g)), (w2, .inl (G.2.2.2, 100, .inl h)), (w3, .inl (G.2.2.1, 10, .inl ik))] H := hP
      have hD : va_D A [(a, .inr (3, [.int 0, .long ns, .long ns, .int (nI n), .int k, .int lb, .int (nI q), .ref w1, .ref w2, .ref w3])), (w1, .inl (G.2.2.1, 100, .inl g)), (w2, .inl (G.2.2.2, 100, .inl h)), (w3, .inl (G.2.2.1, 10, .inl ik))] := hD
      refine lv_aload_n hx hb d_M_draw_35 rfl (lv_at hl 0 rfl) ?_
      refine lv_iload_n hx hb d_M_draw_36 rfl (lv_at hl 1 rfl) ?_
      refine va_put (D := G.1) (ci := 3) (v := .int p1) (ty := .int) (C := R_M) (T := F_M) (N := 10) hx hb ht in_M t_M tk_M n_M hown hK hP hD hS 0 rfl rfl 4 (by decide) (ht _ kf_M_59) (fun _ h9 => h9) rfl (by decide +kernel) rfl rfl (Nat.le_of_ble_eq_true rfl) d_M_draw_37 (fun H locs hP hD hS => ?_)
      have hP : va_P G.1 classes [(a, .inr (3, [.int 0, .long ns, .long ns, .int (nI n), .int p1, .int lb, .int (nI q), .ref w1, .ref w2, .ref w3])), (w1, .inl (G.2.2.1, 100, .inl g)), (w2, .inl (G.2.2.2, 100, .inl h)), (w3, .inl (G.2.2.1, 10, .inl ik))] H := hP
      have hD : va_D A [(a, .inr (3, [.int 0, .long ns, .long ns, .int (nI n), .int p1, .int lb, .int (nI q), .ref w1, .ref w2, .ref w3])), (w1, .inl (G.2.2.1, 100, .inl g)), (w2, .inl (G.2.2.2, 100, .inl h)), (w3, .inl (G.2.2.1, 10, .inl ik))] := hD
      refine lv_aload_n hx hb d_M_draw_40 rfl (lv_at hl 0 rfl) ?_
      refine lv_iload_n hx hb d_M_draw_41 rfl (lv_at hl 2 rfl) ?_
      refine lv_iconst (v := 1) hx hb d_M_draw_42 (by decide) ?_
      refine lv_iadd hx hb d_M_draw_43 ?_
      rw [show nI p2 + 1 = nI (p2 + 1) from nI_add p2 1]
      refine va_put (D := G.1) (ci := 3) (v := .int (nI (p2 + 1))) (ty := .int) (C := R_M) (T := F_M) (N := 10) hx hb ht in_M t_M tk_M n_M hown hK hP hD hS 0 rfl rfl 3 (by decide) (ht _ kf_M_62) (fun _ h9 => h9) rfl (by decide +kernel) rfl rfl (Nat.le_of_ble_eq_true rfl) d_M_draw_44 (fun H locs hP hD hS => ?_)
      have hP : va_P G.1 classes [(a, .inr (3, [.int 0, .long ns, .long ns, .int (nI (p2 + 1)), .int p1, .int lb, .int (nI q), .ref w1, .ref w2, .ref w3])), (w1, .inl (G.2.2.1, 100, .inl g)), (w2, .inl (G.2.2.2, 100, .inl h)), (w3, .inl (G.2.2.1, 10, .inl ik))] H := hP
      have hD : va_D A [(a, .inr (3, [.int 0, .long ns, .long ns, .int (nI (p2 + 1)), .int p1, .int lb, .int (nI q), .ref w1, .ref w2, .ref w3])), (w1, .inl (G.2.2.1, 100, .inl g)), (w2, .inl (G.2.2.2, 100, .inl h)), (w3, .inl (G.2.2.1, 10, .inl ik))] := hD
      refine lv_aload_n hx hb d_M_draw_47 rfl (lv_at hl 0 rfl) ?_
      refine lv_iconst (v := 1) hx hb d_M_draw_48 (by decide) ?_
      refine lv_aload_n hx hb d_M_draw_49 rfl (lv_at hl 0 rfl) ?_
      refine va_get (D := G.1) (ci := 3) (v := .int (nI (p2 + 1))) (C := R_M) (T := F_M) (N := 10) hx hb ht in_M hown hK hP 0 rfl rfl 3 (by decide) (ht _ kf_M_62) (fun _ h9 => h9) rfl d_M_draw_50 ?_
      refine lv_ishl hx hb d_M_draw_53 ?_
      refine lv_iconst (v := 1) hx hb d_M_draw_54 (by decide) ?_
      refine lv_isub hx hb d_M_draw_55 ?_
      refine va_put (D := G.1) (ci := 3) (v := .int (((1 : Int32) <<< ((nI (p2 + 1)) &&& 31)) - 1)) (ty := .int) (C := R_M) (T := F_M) (N := 10) hx hb ht in_M t_M tk_M n_M hown hK hP hD hS 0 rfl rfl 5 (by decide) (ht _ kf_M_65) (fun _ h9 => h9) rfl (by decide +kernel) rfl rfl (Nat.le_of_ble_eq_true rfl) d_M_draw_56 (fun H locs hP hD hS => ?_)
      have hP : va_P G.1 classes [(a, .inr (3, [.int 0, .long ns, .long ns, .int (nI (p2 + 1)), .int p1, .int (((1 : Int32) <<< ((nI (p2 + 1)) &&& 31)) - 1), .int (nI q), .ref w1, .ref w2, .ref w3])), (w1, .inl (G.2.2.1, 100, .inl g)), (w2, .inl (G.2.2.2, 100, .inl h)), (w3, .inl (G.2.2.1, 10, .inl ik))] H := hP
      have hD : va_D A [(a, .inr (3, [.int 0, .long ns, .long ns, .int (nI (p2 + 1)), .int p1, .int (((1 : Int32) <<< ((nI (p2 + 1)) &&& 31)) - 1), .int (nI q), .ref w1, .ref w2, .ref w3])), (w1, .inl (G.2.2.1, 100, .inl g)), (w2, .inl (G.2.2.2, 100, .inl h)), (w3, .inl (G.2.2.1, 10, .inl ik))] := hD
      refine lv_aload_n hx hb d_M_draw_59 rfl (lv_at hl 0 rfl) ?_
      refine lv_iconst (v := 0) hx hb d_M_draw_60 (by decide) ?_
      refine va_put (D := G.1) (ci := 3) (v := .int 0) (ty := .int) (C := R_M) (T := F_M) (N := 10) hx hb ht in_M t_M tk_M n_M hown hK hP hD hS 0 rfl rfl 6 (by decide) (ht _ kf_M_68) (fun _ h9 => h9) rfl (by decide +kernel) rfl rfl (Nat.le_of_ble_eq_true rfl) d_M_draw_61 (fun H locs hP hD hS => ?_)
      have hP : va_P G.1 classes [(a, .inr (3, [.int 0, .long ns, .long ns, .int (nI (p2 + 1)), .int p1, .int (((1 : Int32) <<< ((nI (p2 + 1)) &&& 31)) - 1), .int 0, .ref w1, .ref w2, .ref w3])), (w1, .inl (G.2.2.1, 100, .inl g)), (w2, .inl (G.2.2.2, 100, .inl h)), (w3, .inl (G.2.2.1, 10, .inl ik))] H := hP
      have hD : va_D A [(a, .inr (3, [.int 0, .long ns, .long ns, .int (nI (p2 + 1)), .int p1, .int (((1 : Int32) <<< ((nI (p2 + 1)) &&& 31)) - 1), .int 0, .ref w1, .ref w2, .ref w3])), (w1, .inl (G.2.2.1, 100, .inl g)), (w2, .inl (G.2.2.2, 100, .inl h)), (w3, .inl (G.2.2.1, 10, .inl ik))] := hD
      refine lv_aload_n hx hb d_M_draw_64 rfl (lv_at hl 0 rfl) ?_
      refine va_get (D := G.1) (ci := 3) (v := .int (nI (p2 + 1))) (C := R_M) (T := F_M) (N := 10) hx hb ht in_M hown hK hP 0 rfl rfl 3 (by decide) (ht _ kf_M_62) (fun _ h9 => h9) rfl d_M_draw_65 ?_
      exact W.iret (v := (nI (p2 + 1))) hx hb hr (fun t h9 _ => ⟨⟨(nI (p2 + 1)), (), rfl, rfl, by show va_P _ _ _ t.heap; rw [h9]; exact hP⟩, hS.F h9⟩) hS.2.2 d_M_draw_68
    · exact absurd (by unfold mdr; rw [if_neg c1, if_pos c2]) hdr
def fn_M_part (sd : Int64) (n : Nat) (k : Int32) (p1 : Int32) (p2 : Int32) : Int32 := (if (fn_M_in p1 0 ((nI n) - 1)) = 0 then (-1) else (if (fn_M_in p2 0 4) = 0 then (-12) else (if p2 = 0 then (if (hf sd k n p1) = 0 then 0 else 1) else (fn_M_fact (zN sd k p1) p2))))
set_option maxHeartbeats 4000000 in
set_option maxRecDepth 100000 in
theorem c_M_part (l : Launch) (G : GT) (H : Heap) (a : Nat) (w1 : Nat) (w2 : Nat) (w3 : Nat) (ns : Int64) (sd : Int64) (n : Nat) (k : Int32) (lb : Int32) (q : Nat) (g : Nat → Int32) (h : Nat → Int32) (ik : Nat → Int32) (p1 : Int32) (p2 : Int32) (hP : va_P G.1 classes [(a, .inr (3, [.int 0, .long ns, .long sd, .int (nI n), .int k, .int lb, .int (nI q), .ref w1, .ref w2, .ref w3])), (w1, .inl (G.2.2.1, 100, .inl g)), (w2, .inl (G.2.2.2, 100, .inl h)), (w3, .inl (G.2.2.1, 10, .inl ik))] H) (hD0 : va_D (fun _ => True) [(a, .inr (3, [.int 0, .long ns, .long sd, .int (nI n), .int k, .int lb, .int (nI q), .ref w1, .ref w2, .ref w3])), (w1, .inl (G.2.2.1, 100, .inl g)), (w2, .inl (G.2.2.2, 100, .inl h)), (w3, .inl (G.2.2.1, 10, .inl ik))]) (hn : n ≤ 16) (hq : q ≤ 100) : Met l y_M_part (Cond.code y_M_part b_M_part 3 (some .int) :: TG) ({ frames := 2, cells := 0, slots := 0, locals := 55 }) (PC G H [.ref a, .int p1, .int p2]) (QMi G (fn_M_part sd n k p1 p2) [(a, .inr (3, [.int 0, .long ns, .long sd, .int (nI n), .int k, .int lb, .int (nI q), .ref w1, .ref w2, .ref w3])), (w1, .inl (G.2.2.1, 100, .inl g)), (w2, .inl (G.2.2.2, 100, .inl h)), (w3, .inl (G.2.2.1, 10, .inl ik))] (va_A [(a, .inr (3, [.int 0, .long ns, .long sd, .int (nI n), .int k, .int lb, .int (nI q), .ref w1, .ref w2, .ref w3])), (w1, .inl (G.2.2.1, 100, .inl g)), (w2, .inl (G.2.2.2, 100, .inl h)), (w3, .inl (G.2.2.1, 10, .inl ik))] H.size)) 0 0 (va_A [(a, .inr (3, [.int 0, .long ns, .long sd, .int (nI n), .int k, .int lb, .int (nI q), .ref w1, .ref w2, .ref w3])), (w1, .inl (G.2.2.1, 100, .inl g)), (w2, .inl (G.2.2.2, 100, .inl h)), (w3, .inl (G.2.2.1, 10, .inl ik))] H.size) := by
  refine Met.ofW (cc := b_M_part) (maxL := 3) (ret := (some .int)) (by decide) rfl ?_
  intro p e s m args below meth c s₁ B hml hv
  obtain ⟨rfl, hH, hKN⟩ := hv
  subst hH
  have hx := B.exec
  have hb := B.bytes
  have hr := B.returns
  have hts := atoms_spec (ws := (Cond.code y_M_part b_M_part 3 (some .int) :: TG)) B.pre
  have ht : ∀ w ∈ TG, w.before _ s = true := fun w h => hts w (List.mem_cons_of_mem _ h)
  have hown : s.vm.findClass R_M = some m.cls := findClass_of_methodNamed B.named
  have hlocks := B.notSynchronized
  have hK := hKN.1
  have hl := lv_entry ([.ref a, .int p1, .int p2]) (n := 3) (Nat.le_of_ble_eq_true rfl)
  rw [lg_entry_eq]
  generalize (lg_sl ([.ref a, .int p1, .int p2]) ++ List.replicate (3 - (lg_sl ([.ref a, .int p1, .int p2])).length) Slot.unset).toArray = ls at hl ⊢
  have hl : lv_has ls 3 [(0, .ref a), (1, .int p1), (2, .int p2)] := hl
  have hD := hD0.self (sz := s.heap.size)
  generalize hAe : va_A [(a, .inr (3, [.int 0, .long ns, .long sd, .int (nI n), .int k, .int lb, .int (nI q), .ref w1, .ref w2, .ref w3])), (w1, .inl (G.2.2.1, 100, .inl g)), (w2, .inl (G.2.2.2, 100, .inl h)), (w3, .inl (G.2.2.1, 10, .inl ik))] s.heap.size = A at hD ⊢
  have hA : ∀ q : Nat, s.heap.size ≤ q → A q := fun q h => by rw [← hAe]; exact Or.inr h
  have hS : va_S A s.heap s.heap [] := va_S.rf
  refine lv_aload_n hx hb d_M_part_0 rfl (lv_at hl 0 rfl) ?_
  refine lv_iconst (v := 0) hx hb d_M_part_1 (by decide) ?_
  refine va_put (D := G.1) (ci := 3) (v := .int 0) (ty := .int) (C := R_M) (T := F_M) (N := 10) hx hb ht in_M t_M tk_M n_M hown hK hP hD hS 0 rfl rfl 0 (by decide) (ht _ kf_M_24) (fun _ h9 => h9) rfl (by decide +kernel) rfl rfl (Nat.le_of_ble_eq_true rfl) d_M_part_2 (fun H locs hP hD hS => ?_)
  have hP : va_P G.1 classes [(a, .inr (3, [.int 0, .long ns, .long sd, .int (nI n), .int k, .int lb, .int (nI q), .ref w1, .ref w2, .ref w3])), (w1, .inl (G.2.2.1, 100, .inl g)), (w2, .inl (G.2.2.2, 100, .inl h)), (w3, .inl (G.2.2.1, 10, .inl ik))] H := hP
  have hD : va_D A [(a, .inr (3, [.int 0, .long ns, .long sd, .int (nI n), .int k, .int lb, .int (nI q), .ref w1, .ref w2, .ref w3])), (w1, .inl (G.2.2.1, 100, .inl g)), (w2, .inl (G.2.2.2, 100, .inl h)), (w3, .inl (G.2.2.1, 10, .inl ik))] := hD
  refine lv_iload_n hx hb d_M_part_5 rfl (lv_at hl 1 rfl) ?_
  refine lv_iconst (v := 0) hx hb d_M_part_6 (by decide) ?_
  refine lv_aload_n hx hb d_M_part_7 rfl (lv_at hl 0 rfl) ?_
  refine va_get (D := G.1) (ci := 3) (v := .int (nI n)) (C := R_M) (T := F_M) (N := 10) hx hb ht in_M hown hK hP 0 rfl rfl 3 (by decide) (ht _ kf_M_62) (fun _ h9 => h9) rfl d_M_part_8 ?_
  refine lv_iconst (v := 1) hx hb d_M_part_11 (by decide) ?_
  refine lv_isub hx hb d_M_part_12 ?_
  refine pr_i (ru_S (As := [.int p1, .int 0, .int ((nI n) - 1)]) (rest := []) ⟨hx, hb, hml, hown, ht⟩ hKN (c_M_in l G _ p1 0 ((nI n) - 1)) kc_M_52 ⟨rfl, rfl⟩ ⟨Nat.le_of_ble_eq_true rfl, Nat.le_of_ble_eq_true rfl⟩ rfl hl.1 rfl (Nat.le_of_ble_eq_true rfl) d_M_part_13 ⟨Nat.le_of_ble_eq_true rfl, Nat.le_of_ble_eq_true rfl⟩) ?_
  refine lv_if_ne (tgt := 21) hx hb d_M_part_16 (by decide) (fun c1 => ?_) (fun c1 => ?_)
  · refine lv_iload_n hx hb d_M_part_21 rfl (lv_at hl 2 rfl) ?_
    refine lv_iconst (v := 0) hx hb d_M_part_22 (by decide) ?_
    refine lv_iconst (v := 4) hx hb d_M_part_23 (by decide) ?_
    refine pr_i (ru_S (As := [.int p2, .int 0, .int 4]) (rest := []) ⟨hx, hb, hml, hown, ht⟩ hKN (c_M_in l G _ p2 0 4) kc_M_52 ⟨rfl, rfl⟩ ⟨Nat.le_of_ble_eq_true rfl, Nat.le_of_ble_eq_true rfl⟩ rfl hl.1 rfl (Nat.le_of_ble_eq_true rfl) d_M_part_24 ⟨Nat.le_of_ble_eq_true rfl, Nat.le_of_ble_eq_true rfl⟩) ?_
    refine lv_if_ne (tgt := 33) hx hb d_M_part_27 (by decide) (fun c2 => ?_) (fun c2 => ?_)
    · refine lv_iload_n hx hb d_M_part_33 rfl (lv_at hl 2 rfl) ?_
      refine lv_if_ne (tgt := 62) hx hb d_M_part_34 (by decide) (fun c3 => ?_) (fun c3 => ?_)
      · refine lv_aload_n hx hb d_M_part_62 rfl (lv_at hl 0 rfl) ?_
        refine va_get (D := G.1) (ci := 3) (v := .long sd) (C := R_M) (T := F_M) (N := 10) hx hb ht in_M hown hK hP 0 rfl rfl 2 (by decide) (ht _ kf_M_56) (fun _ h9 => h9) rfl d_M_part_63 ?_
        refine lv_aload_n hx hb d_M_part_66 rfl (lv_at hl 0 rfl) ?_
        refine va_get (D := G.1) (ci := 3) (v := .int k) (C := R_M) (T := F_M) (N := 10) hx hb ht in_M hown hK hP 0 rfl rfl 4 (by decide) (ht _ kf_M_59) (fun _ h9 => h9) rfl d_M_part_67 ?_
        refine lv_iload_n hx hb d_M_part_70 rfl (lv_at hl 1 rfl) ?_
        refine pr_l (ru_S (As := [.long sd, .int k, .int p1]) (rest := []) ⟨hx, hb, hml, hown, ht⟩ hKN (c_M_number l G _ sd k p1) kc_M_44 ⟨rfl, rfl⟩ ⟨Nat.le_of_ble_eq_true rfl, Nat.le_of_ble_eq_true rfl⟩ rfl hl.1 rfl (Nat.le_of_ble_eq_true rfl) d_M_part_71 ⟨Nat.le_of_ble_eq_true rfl, Nat.le_of_ble_eq_true rfl⟩) ?_
        refine lv_iload_n hx hb d_M_part_74 rfl (lv_at hl 2 rfl) ?_
        refine pr_i (ru_S (As := [.long (zN sd k p1), .int p2]) (rest := []) ⟨hx, hb, hml, hown, ht⟩ hKN (c_M_fact l G _ (zN sd k p1) p2) kc_M_75 ⟨rfl, rfl⟩ ⟨Nat.le_of_ble_eq_true rfl, Nat.le_of_ble_eq_true rfl⟩ rfl hl.1 rfl (Nat.le_of_ble_eq_true rfl) d_M_part_75 ⟨Nat.le_of_ble_eq_true rfl, Nat.le_of_ble_eq_true rfl⟩) ?_
        exact W.iret (v := (fn_M_fact (zN sd k p1) p2)) hx hb hr (fun t h9 _ => ⟨⟨(fn_M_fact (zN sd k p1) p2), (), rfl, (by unfold fn_M_part; rw [if_neg c1, if_neg c2, if_neg c3]), by show va_P _ _ _ t.heap; rw [h9]; exact hP⟩, hS.F h9⟩) hS.2.2 d_M_part_78
      · refine lv_aload_n hx hb d_M_part_37 rfl (lv_at hl 0 rfl) ?_
        refine va_get (D := G.1) (ci := 3) (v := .long sd) (C := R_M) (T := F_M) (N := 10) hx hb ht in_M hown hK hP 0 rfl rfl 2 (by decide) (ht _ kf_M_56) (fun _ h9 => h9) rfl d_M_part_38 ?_
        refine lv_aload_n hx hb d_M_part_41 rfl (lv_at hl 0 rfl) ?_
        refine va_get (D := G.1) (ci := 3) (v := .int k) (C := R_M) (T := F_M) (N := 10) hx hb ht in_M hown hK hP 0 rfl rfl 4 (by decide) (ht _ kf_M_59) (fun _ h9 => h9) rfl d_M_part_42 ?_
        refine lv_aload_n hx hb d_M_part_45 rfl (lv_at hl 0 rfl) ?_
        refine va_get (D := G.1) (ci := 3) (v := .int (nI n)) (C := R_M) (T := F_M) (N := 10) hx hb ht in_M hown hK hP 0 rfl rfl 3 (by decide) (ht _ kf_M_62) (fun _ h9 => h9) rfl d_M_part_46 ?_
        refine lv_iload_n hx hb d_M_part_49 rfl (lv_at hl 1 rfl) ?_
        refine pr_i (ru_S (As := [.long sd, .int k, .int (nI n), .int p1]) (rest := []) ⟨hx, hb, hml, hown, ht⟩ hKN (c_M_hasFaults l G _ sd k n p1 (show n ≤ 16 by omega)) kc_M_71 ⟨rfl, rfl⟩ ⟨Nat.le_of_ble_eq_true rfl, Nat.le_of_ble_eq_true rfl⟩ rfl hl.1 rfl (Nat.le_of_ble_eq_true rfl) d_M_part_50 ⟨Nat.le_of_ble_eq_true rfl, Nat.le_of_ble_eq_true rfl⟩) ?_
        refine lv_if_eq (tgt := 60) hx hb d_M_part_53 (by decide) (fun c4 => ?_) (fun c4 => ?_)
        · refine lv_iconst (v := 0) hx hb d_M_part_60 (by decide) ?_
          exact W.iret (v := 0) hx hb hr (fun t h9 _ => ⟨⟨0, (), rfl, (by unfold fn_M_part; rw [if_neg c1, if_neg c2, if_pos c3, if_pos c4]), by show va_P _ _ _ t.heap; rw [h9]; exact hP⟩, hS.F h9⟩) hS.2.2 d_M_part_61
        · refine lv_iconst (v := 1) hx hb d_M_part_56 (by decide) ?_
          refine lv_goto (tgt := 61) hx hb d_M_part_57 (by decide) ?_
          exact W.iret (v := 1) hx hb hr (fun t h9 _ => ⟨⟨1, (), rfl, (by unfold fn_M_part; rw [if_neg c1, if_neg c2, if_pos c3, if_neg c4]), by show va_P _ _ _ t.heap; rw [h9]; exact hP⟩, hS.F h9⟩) hS.2.2 d_M_part_61
    · refine lv_bipush (v := (-12)) hx hb d_M_part_30 (by decide) ?_
      exact W.iret (v := (-12)) hx hb hr (fun t h9 _ => ⟨⟨(-12), (), rfl, (by unfold fn_M_part; rw [if_neg c1, if_pos c2]), by show va_P _ _ _ t.heap; rw [h9]; exact hP⟩, hS.F h9⟩) hS.2.2 d_M_part_32
  · refine lv_iconst (v := (-1)) hx hb d_M_part_19 (by decide) ?_
    exact W.iret (v := (-1)) hx hb hr (fun t h9 _ => ⟨⟨(-1), (), rfl, (by unfold fn_M_part; rw [if_pos c1]), by show va_P _ _ _ t.heap; rw [h9]; exact hP⟩, hS.F h9⟩) hS.2.2 d_M_part_20
def fn_M_faultless (sd : Int64) (n : Nat) (k : Int32) (p1 : Int32) : Int32 := (if k = 3 then (if (fn_M_in p1 0 ((nI n) - 1)) = 0 then 0 else (if (hf sd k n p1) = 0 then 1 else 0)) else 0)
set_option maxHeartbeats 4000000 in
set_option maxRecDepth 100000 in
theorem c_M_faultless (l : Launch) (G : GT) (H : Heap) (a : Nat) (w1 : Nat) (w2 : Nat) (w3 : Nat) (ns : Int64) (sd : Int64) (n : Nat) (k : Int32) (lb : Int32) (q : Nat) (g : Nat → Int32) (h : Nat → Int32) (ik : Nat → Int32) (p1 : Int32) (hP : va_P G.1 classes [(a, .inr (3, [.int 0, .long ns, .long sd, .int (nI n), .int k, .int lb, .int (nI q), .ref w1, .ref w2, .ref w3])), (w1, .inl (G.2.2.1, 100, .inl g)), (w2, .inl (G.2.2.2, 100, .inl h)), (w3, .inl (G.2.2.1, 10, .inl ik))] H) (hD0 : va_D (fun _ => True) [(a, .inr (3, [.int 0, .long ns, .long sd, .int (nI n), .int k, .int lb, .int (nI q), .ref w1, .ref w2, .ref w3])), (w1, .inl (G.2.2.1, 100, .inl g)), (w2, .inl (G.2.2.2, 100, .inl h)), (w3, .inl (G.2.2.1, 10, .inl ik))]) (hn : n ≤ 16) (hq : q ≤ 100) : Met l y_M_faultless (Cond.code y_M_faultless b_M_faultless 2 (some .boolean) :: TG) ({ frames := 2, cells := 0, slots := 0, locals := 55 }) (PC G H [.ref a, .int p1]) (QMi G (fn_M_faultless sd n k p1) [(a, .inr (3, [.int 0, .long ns, .long sd, .int (nI n), .int k, .int lb, .int (nI q), .ref w1, .ref w2, .ref w3])), (w1, .inl (G.2.2.1, 100, .inl g)), (w2, .inl (G.2.2.2, 100, .inl h)), (w3, .inl (G.2.2.1, 10, .inl ik))] (va_A [(a, .inr (3, [.int 0, .long ns, .long sd, .int (nI n), .int k, .int lb, .int (nI q), .ref w1, .ref w2, .ref w3])), (w1, .inl (G.2.2.1, 100, .inl g)), (w2, .inl (G.2.2.2, 100, .inl h)), (w3, .inl (G.2.2.1, 10, .inl ik))] H.size)) 0 0 (va_A [(a, .inr (3, [.int 0, .long ns, .long sd, .int (nI n), .int k, .int lb, .int (nI q), .ref w1, .ref w2, .ref w3])), (w1, .inl (G.2.2.1, 100, .inl g)), (w2, .inl (G.2.2.2, 100, .inl h)), (w3, .inl (G.2.2.1, 10, .inl ik))] H.size) := by
  refine Met.ofW (cc := b_M_faultless) (maxL := 2) (ret := (some .boolean)) (by decide) rfl ?_
  intro p e s m args below meth c s₁ B hml hv
  obtain ⟨rfl, hH, hKN⟩ := hv
  subst hH
  have hx := B.exec
  have hb := B.bytes
  have hr := B.returns
  have hts := atoms_spec (ws := (Cond.code y_M_faultless b_M_faultless 2 (some .boolean) :: TG)) B.pre
  have ht : ∀ w ∈ TG, w.before _ s = true := fun w h => hts w (List.mem_cons_of_mem _ h)
  have hown : s.vm.findClass R_M = some m.cls := findClass_of_methodNamed B.named
  have hlocks := B.notSynchronized
  have hK := hKN.1
  have hl := lv_entry ([.ref a, .int p1]) (n := 2) (Nat.le_of_ble_eq_true rfl)
  rw [lg_entry_eq]
  generalize (lg_sl ([.ref a, .int p1]) ++ List.replicate (2 - (lg_sl ([.ref a, .int p1])).length) Slot.unset).toArray = ls at hl ⊢
  have hl : lv_has ls 2 [(0, .ref a), (1, .int p1)] := hl
  have hD := hD0.self (sz := s.heap.size)
  generalize hAe : va_A [(a, .inr (3, [.int 0, .long ns, .long sd, .int (nI n), .int k, .int lb, .int (nI q), .ref w1, .ref w2, .ref w3])), (w1, .inl (G.2.2.1, 100, .inl g)), (w2, .inl (G.2.2.2, 100, .inl h)), (w3, .inl (G.2.2.1, 10, .inl ik))] s.heap.size = A at hD ⊢
  have hA : ∀ q : Nat, s.heap.size ≤ q → A q := fun q h => by rw [← hAe]; exact Or.inr h
  have hS : va_S A s.heap s.heap [] := va_S.rf
  refine lv_aload_n hx hb d_M_faultless_0 rfl (lv_at hl 0 rfl) ?_
  refine lv_iconst (v := 0) hx hb d_M_faultless_1 (by decide) ?_
  refine va_put (D := G.1) (ci := 3) (v := .int 0) (ty := .int) (C := R_M) (T := F_M) (N := 10) hx hb ht in_M t_M tk_M n_M hown hK hP hD hS 0 rfl rfl 0 (by decide) (ht _ kf_M_24) (fun _ h9 => h9) rfl (by decide +kernel) rfl rfl (Nat.le_of_ble_eq_true rfl) d_M_faultless_2 (fun H locs hP hD hS => ?_)
  have hP : va_P G.1 classes [(a, .inr (3, [.int 0, .long ns, .long sd, .int (nI n), .int k, .int lb, .int (nI q), .ref w1, .ref w2, .ref w3])), (w1, .inl (G.2.2.1, 100, .inl g)), (w2, .inl (G.2.2.2, 100, .inl h)), (w3, .inl (G.2.2.1, 10, .inl ik))] H := hP
  have hD : va_D A [(a, .inr (3, [.int 0, .long ns, .long sd, .int (nI n), .int k, .int lb, .int (nI q), .ref w1, .ref w2, .ref w3])), (w1, .inl (G.2.2.1, 100, .inl g)), (w2, .inl (G.2.2.2, 100, .inl h)), (w3, .inl (G.2.2.1, 10, .inl ik))] := hD
  refine lv_aload_n hx hb d_M_faultless_5 rfl (lv_at hl 0 rfl) ?_
  refine va_get (D := G.1) (ci := 3) (v := .int k) (C := R_M) (T := F_M) (N := 10) hx hb ht in_M hown hK hP 0 rfl rfl 4 (by decide) (ht _ kf_M_59) (fun _ h9 => h9) rfl d_M_faultless_6 ?_
  refine lv_iconst (v := 3) hx hb d_M_faultless_9 (by decide) ?_
  refine lv_icmp_ne (tgt := 50) hx hb d_M_faultless_10 (by decide) (fun c1 => ?_) (fun c1 => ?_)
  · refine lv_iconst (v := 0) hx hb d_M_faultless_50 (by decide) ?_
    exact W.zret (v := 0) hx hb hr rfl (fun t h9 _ => ⟨⟨0, (), rfl, (by unfold fn_M_faultless; rw [if_neg c1]), by show va_P _ _ _ t.heap; rw [h9]; exact hP⟩, hS.F h9⟩) hS.2.2 d_M_faultless_51
  · refine lv_iload_n hx hb d_M_faultless_13 rfl (lv_at hl 1 rfl) ?_
    refine lv_iconst (v := 0) hx hb d_M_faultless_14 (by decide) ?_
    refine lv_aload_n hx hb d_M_faultless_15 rfl (lv_at hl 0 rfl) ?_
    refine va_get (D := G.1) (ci := 3) (v := .int (nI n)) (C := R_M) (T := F_M) (N := 10) hx hb ht in_M hown hK hP 0 rfl rfl 3 (by decide) (ht _ kf_M_62) (fun _ h9 => h9) rfl d_M_faultless_16 ?_
    refine lv_iconst (v := 1) hx hb d_M_faultless_19 (by decide) ?_
    refine lv_isub hx hb d_M_faultless_20 ?_
    refine pr_i (ru_S (As := [.int p1, .int 0, .int ((nI n) - 1)]) (rest := []) ⟨hx, hb, hml, hown, ht⟩ hKN (c_M_in l G _ p1 0 ((nI n) - 1)) kc_M_52 ⟨rfl, rfl⟩ ⟨Nat.le_of_ble_eq_true rfl, Nat.le_of_ble_eq_true rfl⟩ rfl hl.1 rfl (Nat.le_of_ble_eq_true rfl) d_M_faultless_21 ⟨Nat.le_of_ble_eq_true rfl, Nat.le_of_ble_eq_true rfl⟩) ?_
    refine lv_if_eq (tgt := 50) hx hb d_M_faultless_24 (by decide) (fun c2 => ?_) (fun c2 => ?_)
    · refine lv_iconst (v := 0) hx hb d_M_faultless_50 (by decide) ?_
      exact W.zret (v := 0) hx hb hr rfl (fun t h9 _ => ⟨⟨0, (), rfl, (by unfold fn_M_faultless; rw [if_pos c1, if_pos c2]), by show va_P _ _ _ t.heap; rw [h9]; exact hP⟩, hS.F h9⟩) hS.2.2 d_M_faultless_51
    · refine lv_aload_n hx hb d_M_faultless_27 rfl (lv_at hl 0 rfl) ?_
      refine va_get (D := G.1) (ci := 3) (v := .long sd) (C := R_M) (T := F_M) (N := 10) hx hb ht in_M hown hK hP 0 rfl rfl 2 (by decide) (ht _ kf_M_56) (fun _ h9 => h9) rfl d_M_faultless_28 ?_
      refine lv_aload_n hx hb d_M_faultless_31 rfl (lv_at hl 0 rfl) ?_
      refine va_get (D := G.1) (ci := 3) (v := .int k) (C := R_M) (T := F_M) (N := 10) hx hb ht in_M hown hK hP 0 rfl rfl 4 (by decide) (ht _ kf_M_59) (fun _ h9 => h9) rfl d_M_faultless_32 ?_
      refine lv_aload_n hx hb d_M_faultless_35 rfl (lv_at hl 0 rfl) ?_
      refine va_get (D := G.1) (ci := 3) (v := .int (nI n)) (C := R_M) (T := F_M) (N := 10) hx hb ht in_M hown hK hP 0 rfl rfl 3 (by decide) (ht _ kf_M_62) (fun _ h9 => h9) rfl d_M_faultless_36 ?_
      refine lv_iload_n hx hb d_M_faultless_39 rfl (lv_at hl 1 rfl) ?_
      refine pr_i (ru_S (As := [.long sd, .int k, .int (nI n), .int p1]) (rest := []) ⟨hx, hb, hml, hown, ht⟩ hKN (c_M_hasFaults l G _ sd k n p1 (show n ≤ 16 by omega)) kc_M_71 ⟨rfl, rfl⟩ ⟨Nat.le_of_ble_eq_true rfl, Nat.le_of_ble_eq_true rfl⟩ rfl hl.1 rfl (Nat.le_of_ble_eq_true rfl) d_M_faultless_40 ⟨Nat.le_of_ble_eq_true rfl, Nat.le_of_ble_eq_true rfl⟩) ?_
      refine lv_if_ne (tgt := 50) hx hb d_M_faultless_43 (by decide) (fun c3 => ?_) (fun c3 => ?_)
      · refine lv_iconst (v := 0) hx hb d_M_faultless_50 (by decide) ?_
        exact W.zret (v := 0) hx hb hr rfl (fun t h9 _ => ⟨⟨0, (), rfl, (by unfold fn_M_faultless; rw [if_pos c1, if_neg c2, if_neg c3]), by show va_P _ _ _ t.heap; rw [h9]; exact hP⟩, hS.F h9⟩) hS.2.2 d_M_faultless_51
      · refine lv_iconst (v := 1) hx hb d_M_faultless_46 (by decide) ?_
        refine lv_goto (tgt := 51) hx hb d_M_faultless_47 (by decide) ?_
        exact W.zret (v := 1) hx hb hr rfl (fun t h9 _ => ⟨⟨1, (), rfl, (by unfold fn_M_faultless; rw [if_pos c1, if_neg c2, if_pos c3]), by show va_P _ _ _ t.heap; rw [h9]; exact hP⟩, hS.F h9⟩) hS.2.2 d_M_faultless_51
def fn_M_minimal (n : Nat) (lb : Int32) (q : Nat) (g : Nat → Int32) (h : Nat → Int32) : Int32 := (if nI n ≤ 0 then 0 else (if (fn_M_stays q g h lb) = 0 then 0 else (if (wo g h q lb (n - 0) 0) = (-1) then 1 else 0)))
set_option maxHeartbeats 4000000 in
set_option maxRecDepth 100000 in
theorem c_M_minimal (l : Launch) (G : GT) (H : Heap) (a : Nat) (w1 : Nat) (w2 : Nat) (w3 : Nat) (ns : Int64) (sd : Int64) (n : Nat) (k : Int32) (lb : Int32) (q : Nat) (g : Nat → Int32) (h : Nat → Int32) (ik : Nat → Int32) (hP : va_P G.1 classes [(a, .inr (3, [.int 0, .long ns, .long sd, .int (nI n), .int k, .int lb, .int (nI q), .ref w1, .ref w2, .ref w3])), (w1, .inl (G.2.2.1, 100, .inl g)), (w2, .inl (G.2.2.2, 100, .inl h)), (w3, .inl (G.2.2.1, 10, .inl ik))] H) (hD0 : va_D (fun _ => True) [(a, .inr (3, [.int 0, .long ns, .long sd, .int (nI n), .int k, .int lb, .int (nI q), .ref w1, .ref w2, .ref w3])), (w1, .inl (G.2.2.1, 100, .inl g)), (w2, .inl (G.2.2.2, 100, .inl h)), (w3, .inl (G.2.2.1, 10, .inl ik))]) (hn : n ≤ 16) (hq : q ≤ 100) : Met l y_M_minimal (Cond.code y_M_minimal b_M_minimal 1 (some .boolean) :: TG) ({ frames := 3, cells := 0, slots := 0, locals := 69 }) (PC G H [.ref a]) (QMi G (fn_M_minimal n lb q g h) [(a, .inr (3, [.int 0, .long ns, .long sd, .int (nI n), .int k, .int lb, .int (nI q), .ref w1, .ref w2, .ref w3])), (w1, .inl (G.2.2.1, 100, .inl g)), (w2, .inl (G.2.2.2, 100, .inl h)), (w3, .inl (G.2.2.1, 10, .inl ik))] (va_A [(a, .inr (3, [.int 0, .long ns, .long sd, .int (nI n), .int k, .int lb, .int (nI q), .ref w1, .ref w2, .ref w3])), (w1, .inl (G.2.2.1, 100, .inl g)), (w2, .inl (G.2.2.2, 100, .inl h)), (w3, .inl (G.2.2.1, 10, .inl ik))] H.size)) 0 0 (va_A [(a, .inr (3, [.int 0, .long ns, .long sd, .int (nI n), .int k, .int lb, .int (nI q), .ref w1, .ref w2, .ref w3])), (w1, .inl (G.2.2.1, 100, .inl g)), (w2, .inl (G.2.2.2, 100, .inl h)), (w3, .inl (G.2.2.1, 10, .inl ik))] H.size) := by
  refine Met.ofW (cc := b_M_minimal) (maxL := 1) (ret := (some .boolean)) (by decide) rfl ?_
  intro p e s m args below meth c s₁ B hml hv
  obtain ⟨rfl, hH, hKN⟩ := hv
  subst hH
  have hx := B.exec
  have hb := B.bytes
  have hr := B.returns
  have hts := atoms_spec (ws := (Cond.code y_M_minimal b_M_minimal 1 (some .boolean) :: TG)) B.pre
  have ht : ∀ w ∈ TG, w.before _ s = true := fun w h => hts w (List.mem_cons_of_mem _ h)
  have hown : s.vm.findClass R_M = some m.cls := findClass_of_methodNamed B.named
  have hlocks := B.notSynchronized
  have hK := hKN.1
  have hl := lv_entry ([.ref a]) (n := 1) (Nat.le_of_ble_eq_true rfl)
  rw [lg_entry_eq]
  generalize (lg_sl ([.ref a]) ++ List.replicate (1 - (lg_sl ([.ref a])).length) Slot.unset).toArray = ls at hl ⊢
  have hl : lv_has ls 1 [(0, .ref a)] := hl
  have hD := hD0.self (sz := s.heap.size)
  generalize hAe : va_A [(a, .inr (3, [.int 0, .long ns, .long sd, .int (nI n), .int k, .int lb, .int (nI q), .ref w1, .ref w2, .ref w3])), (w1, .inl (G.2.2.1, 100, .inl g)), (w2, .inl (G.2.2.2, 100, .inl h)), (w3, .inl (G.2.2.1, 10, .inl ik))] s.heap.size = A at hD ⊢
  have hA : ∀ q : Nat, s.heap.size ≤ q → A q := fun q h => by rw [← hAe]; exact Or.inr h
  have hS : va_S A s.heap s.heap [] := va_S.rf
  refine lv_aload_n hx hb d_M_minimal_0 rfl (lv_at hl 0 rfl) ?_
  refine lv_iconst (v := 0) hx hb d_M_minimal_1 (by decide) ?_
  refine va_put (D := G.1) (ci := 3) (v := .int 0) (ty := .int) (C := R_M) (T := F_M) (N := 10) hx hb ht in_M t_M tk_M n_M hown hK hP hD hS 0 rfl rfl 0 (by decide) (ht _ kf_M_24) (fun _ h9 => h9) rfl (by decide +kernel) rfl rfl (Nat.le_of_ble_eq_true rfl) d_M_minimal_2 (fun H locs hP hD hS => ?_)
  have hP : va_P G.1 classes [(a, .inr (3, [.int 0, .long ns, .long sd, .int (nI n), .int k, .int lb, .int (nI q), .ref w1, .ref w2, .ref w3])), (w1, .inl (G.2.2.1, 100, .inl g)), (w2, .inl (G.2.2.2, 100, .inl h)), (w3, .inl (G.2.2.1, 10, .inl ik))] H := hP
  have hD : va_D A [(a, .inr (3, [.int 0, .long ns, .long sd, .int (nI n), .int k, .int lb, .int (nI q), .ref w1, .ref w2, .ref w3])), (w1, .inl (G.2.2.1, 100, .inl g)), (w2, .inl (G.2.2.2, 100, .inl h)), (w3, .inl (G.2.2.1, 10, .inl ik))] := hD
  refine lv_aload_n hx hb d_M_minimal_5 rfl (lv_at hl 0 rfl) ?_
  refine va_get (D := G.1) (ci := 3) (v := .int (nI n)) (C := R_M) (T := F_M) (N := 10) hx hb ht in_M hown hK hP 0 rfl rfl 3 (by decide) (ht _ kf_M_62) (fun _ h9 => h9) rfl d_M_minimal_6 ?_
  refine lv_if_le (tgt := 40) hx hb d_M_minimal_9 (by decide) (fun c1 => ?_) (fun c1 => ?_)
  · refine lv_iconst (v := 0) hx hb d_M_minimal_40 (by decide) ?_
    exact W.zret (v := 0) hx hb hr rfl (fun t h9 _ => ⟨⟨0, (), rfl, (by unfold fn_M_minimal; rw [if_pos c1]), by show va_P _ _ _ t.heap; rw [h9]; exact hP⟩, hS.F h9⟩) hS.2.2 d_M_minimal_41
  · refine lv_aload_n hx hb d_M_minimal_12 rfl (lv_at hl 0 rfl) ?_
    refine lv_aload_n hx hb d_M_minimal_13 rfl (lv_at hl 0 rfl) ?_
    refine va_get (D := G.1) (ci := 3) (v := .int lb) (C := R_M) (T := F_M) (N := 10) hx hb ht in_M hown hK hP 0 rfl rfl 5 (by decide) (ht _ kf_M_65) (fun _ h9 => h9) rfl d_M_minimal_14 ?_
    refine pr_i (ru_V (b := a) (As := [.int lb]) (rest := []) ⟨hx, hb, hml, hown, ht⟩ hKN (c_M_stays l G _ a w1 w2 w3 ns sd n k lb q g h ik lb (hP.sub [0, 1, 2, 3] rfl) hn hq) kc_M_82 ⟨rfl, rfl⟩ ⟨Nat.le_of_ble_eq_true rfl, Nat.le_of_ble_eq_true rfl⟩ (va_recv hK hP (ci := 3) (q0 := 0) rfl rfl) rfl hl.1 rfl (Nat.le_of_ble_eq_true rfl) d_M_minimal_17 ⟨Nat.le_of_ble_eq_true rfl, Nat.le_of_ble_eq_true rfl⟩) ?_
    refine lv_if_eq (tgt := 40) hx hb d_M_minimal_20 (by decide) (fun c2 => ?_) (fun c2 => ?_)
    · refine lv_iconst (v := 0) hx hb d_M_minimal_40 (by decide) ?_
      exact W.zret (v := 0) hx hb hr rfl (fun t h9 _ => ⟨⟨0, (), rfl, (by unfold fn_M_minimal; rw [if_neg c1, if_pos c2]), by show va_P _ _ _ t.heap; rw [h9]; exact hP⟩, hS.F h9⟩) hS.2.2 d_M_minimal_41
    · refine lv_aload_n hx hb d_M_minimal_23 rfl (lv_at hl 0 rfl) ?_
      refine lv_aload_n hx hb d_M_minimal_24 rfl (lv_at hl 0 rfl) ?_
      refine va_get (D := G.1) (ci := 3) (v := .int lb) (C := R_M) (T := F_M) (N := 10) hx hb ht in_M hown hK hP 0 rfl rfl 5 (by decide) (ht _ kf_M_65) (fun _ h9 => h9) rfl d_M_minimal_25 ?_
      refine lv_iconst (v := 0) hx hb d_M_minimal_28 (by decide) ?_
      refine pr_i (ru_V (b := a) (As := [.int lb, .int 0]) (rest := []) ⟨hx, hb, hml, hown, ht⟩ hKN (c_M_without l G _ a w1 w2 w3 ns sd n k lb q g h ik lb 0 (hP.sub [0, 1, 2, 3] rfl) hn hq (show 0 ≤ n by omega)) kc_M_86 ⟨rfl, rfl⟩ ⟨Nat.le_of_ble_eq_true rfl, Nat.le_of_ble_eq_true rfl⟩ (va_recv hK hP (ci := 3) (q0 := 0) rfl rfl) rfl hl.1 rfl (Nat.le_of_ble_eq_true rfl) d_M_minimal_29 ⟨Nat.le_of_ble_eq_true rfl, Nat.le_of_ble_eq_true rfl⟩) ?_
      refine lv_iconst (v := (-1)) hx hb d_M_minimal_32 (by decide) ?_
      refine lv_icmp_ne (tgt := 40) hx hb d_M_minimal_33 (by decide) (fun c3 => ?_) (fun c3 => ?_)
      · refine lv_iconst (v := 0) hx hb d_M_minimal_40 (by decide) ?_
        exact W.zret (v := 0) hx hb hr rfl (fun t h9 _ => ⟨⟨0, (), rfl, (by unfold fn_M_minimal; rw [if_neg c1, if_neg c2, if_neg c3]), by show va_P _ _ _ t.heap; rw [h9]; exact hP⟩, hS.F h9⟩) hS.2.2 d_M_minimal_41
      · refine lv_iconst (v := 1) hx hb d_M_minimal_36 (by decide) ?_
        refine lv_goto (tgt := 41) hx hb d_M_minimal_37 (by decide) ?_
        exact W.zret (v := 1) hx hb hr rfl (fun t h9 _ => ⟨⟨1, (), rfl, (by unfold fn_M_minimal; rw [if_neg c1, if_neg c2, if_pos c3]), by show va_P _ _ _ t.heap; rw [h9]; exact hP⟩, hS.F h9⟩) hS.2.2 d_M_minimal_41
def mvd (n : Nat) (x : Int32) : Int32 := if nI n = 0 then -13 else if fn_M_in x 1 (((1 : Int32) <<< (nI n &&& 31)) - 1) = 0 then -12 else 0
set_option maxHeartbeats 4000000 in
set_option maxRecDepth 100000 in
theorem c_M_verdict_no (l : Launch) (G : GT) (H : Heap) (a : Nat) (w1 : Nat) (w2 : Nat) (w3 : Nat) (ns : Int64) (sd : Int64) (n : Nat) (k : Int32) (lb : Int32) (q : Nat) (g : Nat → Int32) (h : Nat → Int32) (ik : Nat → Int32) (p1 : Int32) (p2 : Int32) (hP : va_P G.1 classes [(a, .inr (3, [.int 0, .long ns, .long sd, .int (nI n), .int k, .int lb, .int (nI q), .ref w1, .ref w2, .ref w3])), (w1, .inl (G.2.2.1, 100, .inl g)), (w2, .inl (G.2.2.2, 100, .inl h)), (w3, .inl (G.2.2.1, 10, .inl ik))] H) (hD0 : va_D (fun _ => True) [(a, .inr (3, [.int 0, .long ns, .long sd, .int (nI n), .int k, .int lb, .int (nI q), .ref w1, .ref w2, .ref w3])), (w1, .inl (G.2.2.1, 100, .inl g)), (w2, .inl (G.2.2.2, 100, .inl h)), (w3, .inl (G.2.2.1, 10, .inl ik))]) (hn : n ≤ 16) (hq : q ≤ 100) (hvd : ¬ mvd n p1 = 0) : Met l y_M_verdict (Cond.code y_M_verdict b_M_verdict 4 (some .int) :: TG) ({ frames := 1, cells := 0, slots := 0, locals := 22 }) (PC G H [.ref a, .int p1, .int p2]) (QMi G (mvd n p1) [(a, .inr (3, [.int 0, .long ns, .long sd, .int (nI n), .int k, .int lb, .int (nI q), .ref w1, .ref w2, .ref w3])), (w1, .inl (G.2.2.1, 100, .inl g)), (w2, .inl (G.2.2.2, 100, .inl h)), (w3, .inl (G.2.2.1, 10, .inl ik))] (va_A [(a, .inr (3, [.int 0, .long ns, .long sd, .int (nI n), .int k, .int lb, .int (nI q), .ref w1, .ref w2, .ref w3])), (w1, .inl (G.2.2.1, 100, .inl g)), (w2, .inl (G.2.2.2, 100, .inl h)), (w3, .inl (G.2.2.1, 10, .inl ik))] H.size)) 0 0 (va_A [(a, .inr (3, [.int 0, .long ns, .long sd, .int (nI n), .int k, .int lb, .int (nI q), .ref w1, .ref w2, .ref w3])), (w1, .inl (G.2.2.1, 100, .inl g)), (w2, .inl (G.2.2.2, 100, .inl h)), (w3, .inl (G.2.2.1, 10, .inl ik))] H.size) := by
  refine Met.ofW (cc := b_M_verdict) (maxL := 4) (ret := (some .int)) (by decide) rfl ?_
  intro p e s m args below meth c s₁ B hml hv
  obtain ⟨rfl, hH, hKN⟩ := hv
  subst hH
  have hx := B.exec
  have hb := B.bytes
  have hr := B.returns
  have hts := atoms_spec (ws := (Cond.code y_M_verdict b_M_verdict 4 (some .int) :: TG)) B.pre
  have ht : ∀ w ∈ TG, w.before _ s = true := fun w h => hts w (List.mem_cons_of_mem _ h)
  have hown : s.vm.findClass R_M = some m.cls := findClass_of_methodNamed B.named
  have hlocks := B.notSynchronized
  have hK := hKN.1
  have hl := lv_entry ([.ref a, .int p1, .int p2]) (n := 4) (Nat.le_of_ble_eq_true rfl)
  rw [lg_entry_eq]
  generalize (lg_sl ([.ref a, .int p1, .int p2]) ++ List.replicate (4 - (lg_sl ([.ref a, .int p1, .int p2])).length) Slot.unset).toArray = ls at hl ⊢
  have hl : lv_has ls 4 [(0, .ref a), (1, .int p1), (2, .int p2)] := hl
  have hD := hD0.self (sz := s.heap.size)
  generalize hAe : va_A [(a, .inr (3, [.int 0, .long ns, .long sd, .int (nI n), .int k, .int lb, .int (nI q), .ref w1, .ref w2, .ref w3])), (w1, .inl (G.2.2.1, 100, .inl g)), (w2, .inl (G.2.2.2, 100, .inl h)), (w3, .inl (G.2.2.1, 10, .inl ik))] s.heap.size = A at hD ⊢
  have hA : ∀ q : Nat, s.heap.size ≤ q → A q := fun q h => by rw [← hAe]; exact Or.inr h
  have hS : va_S A s.heap s.heap [] := va_S.rf
  refine lv_aload_n hx hb d_M_verdict_0 rfl (lv_at hl 0 rfl) ?_
  refine lv_iconst (v := 0) hx hb d_M_verdict_1 (by decide) ?_
  refine va_put (D := G.1) (ci := 3) (v := .int 0) (ty := .int) (C := R_M) (T := F_M) (N := 10) hx hb ht in_M t_M tk_M n_M hown hK hP hD hS 0 rfl rfl 0 (by decide) (ht _ kf_M_24) (fun _ h9 => h9) rfl (by decide +kernel) rfl rfl (Nat.le_of_ble_eq_true rfl) d_M_verdict_2 (fun H locs hP hD hS => ?_)
  have hP : va_P G.1 classes [(a, .inr (3, [.int 0, .long ns, .long sd, .int (nI n), .int k, .int lb, .int (nI q), .ref w1, .ref w2, .ref w3])), (w1, .inl (G.2.2.1, 100, .inl g)), (w2, .inl (G.2.2.2, 100, .inl h)), (w3, .inl (G.2.2.1, 10, .inl ik))] H := hP
  have hD : va_D A [(a, .inr (3, [.int 0, .long ns, .long sd, .int (nI n), .int k, .int lb, .int (nI q), .ref w1, .ref w2, .ref w3])), (w1, .inl (G.2.2.1, 100, .inl g)), (w2, .inl (G.2.2.2, 100, .inl h)), (w3, .inl (G.2.2.1, 10, .inl ik))] := hD
  refine lv_aload_n hx hb d_M_verdict_5 rfl (lv_at hl 0 rfl) ?_
  refine va_get (D := G.1) (ci := 3) (v := .int (nI n)) (C := R_M) (T := F_M) (N := 10) hx hb ht in_M hown hK hP 0 rfl rfl 3 (by decide) (ht _ kf_M_62) (fun _ h9 => h9) rfl d_M_verdict_6 ?_
  refine lv_if_ne (tgt := 15) hx hb d_M_verdict_9 (by decide) (fun c1 => ?_) (fun c1 => ?_)
  · refine lv_iload_n hx hb d_M_verdict_15 rfl (lv_at hl 1 rfl) ?_
    refine lv_iconst (v := 1) hx hb d_M_verdict_16 (by decide) ?_
    refine lv_iconst (v := 1) hx hb d_M_verdict_17 (by decide) ?_
    refine lv_aload_n hx hb d_M_verdict_18 rfl (lv_at hl 0 rfl) ?_
    refine va_get (D := G.1) (ci := 3) (v := .int (nI n)) (C := R_M) (T := F_M) (N := 10) hx hb ht in_M hown hK hP 0 rfl rfl 3 (by decide) (ht _ kf_M_62) (fun _ h9 => h9) rfl d_M_verdict_19 ?_
    refine lv_ishl hx hb d_M_verdict_22 ?_
    refine lv_iconst (v := 1) hx hb d_M_verdict_23 (by decide) ?_
    refine lv_isub hx hb d_M_verdict_24 ?_
    refine pr_i (ru_S (As := [.int p1, .int 1, .int (((1 : Int32) <<< ((nI n) &&& 31)) - 1)]) (rest := []) ⟨hx, hb, hml, hown, ht⟩ hKN (c_M_in l G _ p1 1 (((1 : Int32) <<< ((nI n) &&& 31)) - 1)) kc_M_52 ⟨rfl, rfl⟩ ⟨Nat.le_of_ble_eq_true rfl, Nat.le_of_ble_eq_true rfl⟩ rfl hl.1 rfl (Nat.le_of_ble_eq_true rfl) d_M_verdict_25 ⟨Nat.le_of_ble_eq_true rfl, Nat.le_of_ble_eq_true rfl⟩) ?_
    refine lv_if_ne (tgt := 34) hx hb d_M_verdict_28 (by decide) (fun c2 => ?_) (fun c2 => ?_)
    · exact absurd (by unfold mvd; rw [if_neg c1, if_neg c2]) hvd
    · refine lv_bipush (v := (-12)) hx hb d_M_verdict_31 (by decide) ?_
      exact W.iret (v := (-12)) hx hb hr (fun t h9 _ => ⟨⟨(-12), (), rfl, (by unfold mvd; rw [if_neg c1, if_pos c2]), by show va_P _ _ _ t.heap; rw [h9]; exact hP⟩, hS.F h9⟩) hS.2.2 d_M_verdict_33
  · refine lv_bipush (v := (-13)) hx hb d_M_verdict_12 (by decide) ?_
    exact W.iret (v := (-13)) hx hb hr (fun t h9 _ => ⟨⟨(-13), (), rfl, (by unfold mvd; rw [if_pos c1]), by show va_P _ _ _ t.heap; rw [h9]; exact hP⟩, hS.F h9⟩) hS.2.2 d_M_verdict_14
set_option maxHeartbeats 4000000 in
set_option maxRecDepth 100000 in
theorem c_M_verdict_room (l : Launch) (G : GT) (H : Heap) (a : Nat) (w1 : Nat) (w2 : Nat) (w3 : Nat) (ns : Int64) (sd : Int64) (n : Nat) (k : Int32) (lb : Int32) (q : Nat) (g : Nat → Int32) (h : Nat → Int32) (ik : Nat → Int32) (p1 : Int32) (p2 : Int32) (hP : va_P G.1 classes [(a, .inr (3, [.int 0, .long ns, .long sd, .int (nI n), .int k, .int lb, .int (nI q), .ref w1, .ref w2, .ref w3])), (w1, .inl (G.2.2.1, 100, .inl g)), (w2, .inl (G.2.2.2, 100, .inl h)), (w3, .inl (G.2.2.1, 10, .inl ik))] H) (hD0 : va_D (fun _ => True) [(a, .inr (3, [.int 0, .long ns, .long sd, .int (nI n), .int k, .int lb, .int (nI q), .ref w1, .ref w2, .ref w3])), (w1, .inl (G.2.2.1, 100, .inl g)), (w2, .inl (G.2.2.2, 100, .inl h)), (w3, .inl (G.2.2.1, 10, .inl ik))]) (hn : n ≤ 16) (hq : q ≤ 100) (hvd : mvd n p1 = 0) (hpo : po g p1 q = -1) (hq1 : nI q = 100) : Met l y_M_verdict (Cond.code y_M_verdict b_M_verdict 4 (some .int) :: TG) ({ frames := 1, cells := 0, slots := 0, locals := 23 }) (PC G H [.ref a, .int p1, .int p2]) (QMi G (-14) [(a, .inr (3, [.int 0, .long ns, .long sd, .int (nI n), .int k, .int lb, .int (nI q), .ref w1, .ref w2, .ref w3])), (w1, .inl (G.2.2.1, 100, .inl g)), (w2, .inl (G.2.2.2, 100, .inl h)), (w3, .inl (G.2.2.1, 10, .inl ik))] (va_A [(a, .inr (3, [.int 0, .long ns, .long sd, .int (nI n), .int k, .int lb, .int (nI q), .ref w1, .ref w2, .ref w3])), (w1, .inl (G.2.2.1, 100, .inl g)), (w2, .inl (G.2.2.2, 100, .inl h)), (w3, .inl (G.2.2.1, 10, .inl ik))] H.size)) 0 0 (va_A [(a, .inr (3, [.int 0, .long ns, .long sd, .int (nI n), .int k, .int lb, .int (nI q), .ref w1, .ref w2, .ref w3])), (w1, .inl (G.2.2.1, 100, .inl g)), (w2, .inl (G.2.2.2, 100, .inl h)), (w3, .inl (G.2.2.1, 10, .inl ik))] H.size) := by
  refine Met.ofW (cc := b_M_verdict) (maxL := 4) (ret := (some .int)) (by decide) rfl ?_
  intro p e s m args below meth c s₁ B hml hv
  obtain ⟨rfl, hH, hKN⟩ := hv
  subst hH
  have hx := B.exec
  have hb := B.bytes
  have hr := B.returns
  have hts := atoms_spec (ws := (Cond.code y_M_verdict b_M_verdict 4 (some .int) :: TG)) B.pre
  have ht : ∀ w ∈ TG, w.before _ s = true := fun w h => hts w (List.mem_cons_of_mem _ h)
  have hown : s.vm.findClass R_M = some m.cls := findClass_of_methodNamed B.named
  have hlocks := B.notSynchronized
  have hK := hKN.1
  have hl := lv_entry ([.ref a, .int p1, .int p2]) (n := 4) (Nat.le_of_ble_eq_true rfl)
  rw [lg_entry_eq]
  generalize (lg_sl ([.ref a, .int p1, .int p2]) ++ List.replicate (4 - (lg_sl ([.ref a, .int p1, .int p2])).length) Slot.unset).toArray = ls at hl ⊢
  have hl : lv_has ls 4 [(0, .ref a), (1, .int p1), (2, .int p2)] := hl
  have hD := hD0.self (sz := s.heap.size)
  generalize hAe : va_A [(a, .inr (3, [.int 0, .long ns, .long sd, .int (nI n), .int k, .int lb, .int (nI q), .ref w1, .ref w2, .ref w3])), (w1, .inl (G.2.2.1, 100, .inl g)), (w2, .inl (G.2.2.2, 100, .inl h)), (w3, .inl (G.2.2.1, 10, .inl ik))] s.heap.size = A at hD ⊢
  have hA : ∀ q : Nat, s.heap.size ≤ q → A q := fun q h => by rw [← hAe]; exact Or.inr h
  have hS : va_S A s.heap s.heap [] := va_S.rf
  refine lv_aload_n hx hb d_M_verdict_0 rfl (lv_at hl 0 rfl) ?_
  refine lv_iconst (v := 0) hx hb d_M_verdict_1 (by decide) ?_
  refine va_put (D := G.1) (ci := 3) (v := .int 0) (ty := .int) (C := R_M) (T := F_M) (N := 10) hx hb ht in_M t_M tk_M n_M hown hK hP hD hS 0 rfl rfl 0 (by decide) (ht _ kf_M_24) (fun _ h9 => h9) rfl (by decide +kernel) rfl rfl (Nat.le_of_ble_eq_true rfl) d_M_verdict_2 (fun H locs hP hD hS => ?_)
  have hP : va_P G.1 classes [(a, .inr (3, [.int 0, .long ns, .long sd, .int (nI n), .int k, .int lb, .int (nI q), .ref w1, .ref w2, .ref w3])), (w1, .inl (G.2.2.1, 100, .inl g)), (w2, .inl (G.2.2.2, 100, .inl h)), (w3, .inl (G.2.2.1, 10, .inl ik))] H := hP
  have hD : va_D A [(a, .inr (3, [.int 0, .long ns, .long sd, .int (nI n), .int k, .int lb, .int (nI q), .ref w1, .ref w2, .ref w3])), (w1, .inl (G.2.2.1, 100, .inl g)), (w2, .inl (G.2.2.2, 100, .inl h)), (w3, .inl (G.2.2.1, 10, .inl ik))] := hD
  refine lv_aload_n hx hb d_M_verdict_5 rfl (lv_at hl 0 rfl) ?_
  refine va_get (D := G.1) (ci := 3) (v := .int (nI n)) (C := R_M) (T := F_M) (N := 10) hx hb ht in_M hown hK hP 0 rfl rfl 3 (by decide) (ht _ kf_M_62) (fun _ h9 => h9) rfl d_M_verdict_6 ?_
  refine lv_if_ne (tgt := 15) hx hb d_M_verdict_9 (by decide) (fun c1 => ?_) (fun c1 => ?_)
  · refine lv_iload_n hx hb d_M_verdict_15 rfl (lv_at hl 1 rfl) ?_
    refine lv_iconst (v := 1) hx hb d_M_verdict_16 (by decide) ?_
    refine lv_iconst (v := 1) hx hb d_M_verdict_17 (by decide) ?_
    refine lv_aload_n hx hb d_M_verdict_18 rfl (lv_at hl 0 rfl) ?_
    refine va_get (D := G.1) (ci := 3) (v := .int (nI n)) (C := R_M) (T := F_M) (N := 10) hx hb ht in_M hown hK hP 0 rfl rfl 3 (by decide) (ht _ kf_M_62) (fun _ h9 => h9) rfl d_M_verdict_19 ?_
    refine lv_ishl hx hb d_M_verdict_22 ?_
    refine lv_iconst (v := 1) hx hb d_M_verdict_23 (by decide) ?_
    refine lv_isub hx hb d_M_verdict_24 ?_
    refine pr_i (ru_S (As := [.int p1, .int 1, .int (((1 : Int32) <<< ((nI n) &&& 31)) - 1)]) (rest := []) ⟨hx, hb, hml, hown, ht⟩ hKN (c_M_in l G _ p1 1 (((1 : Int32) <<< ((nI n) &&& 31)) - 1)) kc_M_52 ⟨rfl, rfl⟩ ⟨Nat.le_of_ble_eq_true rfl, Nat.le_of_ble_eq_true rfl⟩ rfl hl.1 rfl (Nat.le_of_ble_eq_true rfl) d_M_verdict_25 ⟨Nat.le_of_ble_eq_true rfl, Nat.le_of_ble_eq_true rfl⟩) ?_
    refine lv_if_ne (tgt := 34) hx hb d_M_verdict_28 (by decide) (fun c2 => ?_) (fun c2 => ?_)
    · refine lv_aload_n hx hb d_M_verdict_34 rfl (lv_at hl 0 rfl) ?_
      refine lv_iload_n hx hb d_M_verdict_35 rfl (lv_at hl 1 rfl) ?_
      refine pr_i (ru_V (b := a) (As := [.int p1]) (rest := []) ⟨hx, hb, hml, hown, ht⟩ hKN (c_M_placeOf l G _ a w1 w2 w3 ns sd n k lb q g h ik p1 (hP.sub [0, 1, 2, 3] rfl) hn hq) kc_M_78 ⟨rfl, rfl⟩ ⟨Nat.le_of_ble_eq_true rfl, Nat.le_of_ble_eq_true rfl⟩ (va_recv hK hP (ci := 3) (q0 := 0) rfl rfl) rfl hl.1 rfl (Nat.le_of_ble_eq_true rfl) d_M_verdict_36 ⟨Nat.le_of_ble_eq_true rfl, Nat.le_of_ble_eq_true rfl⟩) ?_
      refine lv_istore_n (lv' := [(3, .int (po g p1 q)), (0, .ref a), (1, .int p1), (2, .int p2)]) hx hb d_M_verdict_39 rfl hl (by decide) rfl (fun ls hl => ?_)
      refine lv_iload_n hx hb d_M_verdict_40 rfl (lv_at hl 0 rfl) ?_
      refine lv_iconst (v := (-1)) hx hb d_M_verdict_41 (by decide) ?_
      refine lv_icmp_ne (tgt := 57) hx hb d_M_verdict_42 (by decide) (fun c3 => ?_) (fun c3 => ?_)
      · exact absurd hpo c3
      · refine lv_aload_n hx hb d_M_verdict_45 rfl (lv_at hl 1 rfl) ?_
        refine va_get (D := G.1) (ci := 3) (v := .int (nI q)) (C := R_M) (T := F_M) (N := 10) hx hb ht in_M hown hK hP 0 rfl rfl 6 (by decide) (ht _ kf_M_68) (fun _ h9 => h9) rfl d_M_verdict_46 ?_
        refine lv_bipush (v := 100) hx hb d_M_verdict_49 (by decide) ?_
        refine lv_icmp_ne (tgt := 57) hx hb d_M_verdict_51 (by decide) (fun c4 => ?_) (fun c4 => ?_)
        · exact absurd hq1 c4
        · refine lv_bipush (v := (-14)) hx hb d_M_verdict_54 (by decide) ?_
          exact W.iret (v := (-14)) hx hb hr (fun t h9 _ => ⟨⟨(-14), (), rfl, rfl, by show va_P _ _ _ t.heap; rw [h9]; exact hP⟩, hS.F h9⟩) hS.2.2 d_M_verdict_56
    · exact absurd (hvd.symm.trans (by unfold mvd; rw [if_neg c1, if_pos c2])) (by decide)
  · exact absurd (hvd.symm.trans (by unfold mvd; rw [if_pos c1])) (by decide)
set_option maxHeartbeats 4000000 in
set_option maxRecDepth 100000 in
theorem c_M_verdict_new (l : Launch) (G : GT) (H : Heap) (a : Nat) (w1 : Nat) (w2 : Nat) (w3 : Nat) (ns : Int64) (sd : Int64) (n : Nat) (k : Int32) (lb : Int32) (q : Nat) (g : Nat → Int32) (h : Nat → Int32) (ik : Nat → Int32) (p1 : Int32) (p2 : Int32) (hP : va_P G.1 classes [(a, .inr (3, [.int 0, .long ns, .long sd, .int (nI n), .int k, .int lb, .int (nI q), .ref w1, .ref w2, .ref w3])), (w1, .inl (G.2.2.1, 100, .inl g)), (w2, .inl (G.2.2.2, 100, .inl h)), (w3, .inl (G.2.2.1, 10, .inl ik))] H) (hD0 : va_D (fun _ => True) [(a, .inr (3, [.int 0, .long ns, .long sd, .int (nI n), .int k, .int lb, .int (nI q), .ref w1, .ref w2, .ref w3])), (w1, .inl (G.2.2.1, 100, .inl g)), (w2, .inl (G.2.2.2, 100, .inl h)), (w3, .inl (G.2.2.1, 10, .inl ik))]) (hn : n ≤ 16) (hq : q ≤ 100) (hvd : mvd n p1 = 0) (hpo : po g p1 q = -1) (hq1 : ¬ nI q = 100) (hq2 : q < 100) : Met l y_M_verdict (Cond.code y_M_verdict b_M_verdict 4 (some .int) :: TG) ({ frames := 1, cells := 0, slots := 0, locals := 23 }) (PC G H [.ref a, .int p1, .int p2]) (QMi G (nI (q + 1)) [(a, .inr (3, [.int 0, .long ns, .long sd, .int (nI n), .int k, .int lb, .int (nI (q + 1)), .ref w1, .ref w2, .ref w3])), (w1, .inl (G.2.2.1, 100, .inl (upd g q p1))), (w2, .inl (G.2.2.2, 100, .inl (upd h q (vp_nar .boolean p2)))), (w3, .inl (G.2.2.1, 10, .inl ik))] (va_A [(a, .inr (3, [.int 0, .long ns, .long sd, .int (nI n), .int k, .int lb, .int (nI q), .ref w1, .ref w2, .ref w3])), (w1, .inl (G.2.2.1, 100, .inl g)), (w2, .inl (G.2.2.2, 100, .inl h)), (w3, .inl (G.2.2.1, 10, .inl ik))] H.size)) 0 0 (va_A [(a, .inr (3, [.int 0, .long ns, .long sd, .int (nI n), .int k, .int lb, .int (nI q), .ref w1, .ref w2, .ref w3])), (w1, .inl (G.2.2.1, 100, .inl g)), (w2, .inl (G.2.2.2, 100, .inl h)), (w3, .inl (G.2.2.1, 10, .inl ik))] H.size) := by
  refine Met.ofW (cc := b_M_verdict) (maxL := 4) (ret := (some .int)) (by decide) rfl ?_
  intro p e s m args below meth c s₁ B hml hv
  obtain ⟨rfl, hH, hKN⟩ := hv
  subst hH
  have hx := B.exec
  have hb := B.bytes
  have hr := B.returns
  have hts := atoms_spec (ws := (Cond.code y_M_verdict b_M_verdict 4 (some .int) :: TG)) B.pre
  have ht : ∀ w ∈ TG, w.before _ s = true := fun w h => hts w (List.mem_cons_of_mem _ h)
  have hown : s.vm.findClass R_M = some m.cls := findClass_of_methodNamed B.named
  have hlocks := B.notSynchronized
  have hK := hKN.1
  have hl := lv_entry ([.ref a, .int p1, .int p2]) (n := 4) (Nat.le_of_ble_eq_true rfl)
  rw [lg_entry_eq]
  generalize (lg_sl ([.ref a, .int p1, .int p2]) ++ List.replicate (4 - (lg_sl ([.ref a, .int p1, .int p2])).length) Slot.unset).toArray = ls at hl ⊢
  have hl : lv_has ls 4 [(0, .ref a), (1, .int p1), (2, .int p2)] := hl
  have hD := hD0.self (sz := s.heap.size)
  generalize hAe : va_A [(a, .inr (3, [.int 0, .long ns, .long sd, .int (nI n), .int k, .int lb, .int (nI q), .ref w1, .ref w2, .ref w3])), (w1, .inl (G.2.2.1, 100, .inl g)), (w2, .inl (G.2.2.2, 100, .inl h)), (w3, .inl (G.2.2.1, 10, .inl ik))] s.heap.size = A at hD ⊢
  have hA : ∀ q : Nat, s.heap.size ≤ q → A q := fun q h => by rw [← hAe]; exact Or.inr h
  have hS : va_S A s.heap s.heap [] := va_S.rf
  refine lv_aload_n hx hb d_M_verdict_0 rfl (lv_at hl 0 rfl) ?_
  refine lv_iconst (v := 0) hx hb d_M_verdict_1 (by decide) ?_
  refine va_put (D := G.1) (ci := 3) (v := .int 0) (ty := .int) (C := R_M) (T := F_M) (N := 10) hx hb ht in_M t_M tk_M n_M hown hK hP hD hS 0 rfl rfl 0 (by decide) (ht _ kf_M_24) (fun _ h9 => h9) rfl (by decide +kernel) rfl rfl (Nat.le_of_ble_eq_true rfl) d_M_verdict_2 (fun H locs hP hD hS => ?_)
  have hP : va_P G.1 classes [(a, .inr (3, [.int 0, .long ns, .long sd, .int (nI n), .int k, .int lb, .int (nI q), .ref w1, .ref w2, .ref w3])), (w1, .inl (G.2.2.1, 100, .inl g)), (w2, .inl (G.2.2.2, 100, .inl h)), (w3, .inl (G.2.2.1, 10, .inl ik))] H := hP
  have hD : va_D A [(a, .inr (3, [.int 0, .long ns, .long sd, .int (nI n), .int k, .int lb, .int (nI q), .ref w1, .ref w2, .ref w3])), (w1, .inl (G.2.2.1, 100, .inl g)), (w2, .inl (G.2.2.2, 100, .inl h)), (w3, .inl (G.2.2.1, 10, .inl ik))] := hD
  refine lv_aload_n hx hb d_M_verdict_5 rfl (lv_at hl 0 rfl) ?_
  refine va_get (D := G.1) (ci := 3) (v := .int (nI n)) (C := R_M) (T := F_M) (N := 10) hx hb ht in_M hown hK hP 0 rfl rfl 3 (by decide) (ht _ kf_M_62) (fun _ h9 => h9) rfl d_M_verdict_6 ?_
  refine lv_if_ne (tgt := 15) hx hb d_M_verdict_9 (by decide) (fun c1 => ?_) (fun c1 => ?_)
  · refine lv_iload_n hx hb d_M_verdict_15 rfl (lv_at hl 1 rfl) ?_
    refine lv_iconst (v := 1) hx hb d_M_verdict_16 (by decide) ?_
    refine lv_iconst (v := 1) hx hb d_M_verdict_17 (by decide) ?_
    refine lv_aload_n hx hb d_M_verdict_18 rfl (lv_at hl 0 rfl) ?_
    refine va_get (D := G.1) (ci := 3) (v := .int (nI n)) (C := R_M) (T := F_M) (N := 10) hx hb ht in_M hown hK hP 0 rfl rfl 3 (by decide) (ht _ kf_M_62) (fun _ h9 => h9) rfl d_M_verdict_19 ?_
    refine lv_ishl hx hb d_M_verdict_22 ?_
    refine lv_iconst (v := 1) hx hb d_M_verdict_23 (by decide) ?_
    refine lv_isub hx hb d_M_verdict_24 ?_
    refine pr_i (ru_S (As := [.int p1, .int 1, .int (((1 : Int32) <<< ((nI n) &&& 31)) - 1)]) (rest := []) ⟨hx, hb, hml, hown, ht⟩ hKN (c_M_in l G _ p1 1 (((1 : Int32) <<< ((nI n) &&& 31)) - 1)) kc_M_52 ⟨rfl, rfl⟩ ⟨Nat.le_of_ble_eq_true rfl, Nat.le_of_ble_eq_true rfl⟩ rfl hl.1 rfl (Nat.le_of_ble_eq_true rfl) d_M_verdict_25 ⟨Nat.le_of_ble_eq_true rfl, Nat.le_of_ble_eq_true rfl⟩) ?_
    refine lv_if_ne (tgt := 34) hx hb d_M_verdict_28 (by decide) (fun c2 => ?_) (fun c2 => ?_)
    · refine lv_aload_n hx hb d_M_verdict_34 rfl (lv_at hl 0 rfl) ?_
      refine lv_iload_n hx hb d_M_verdict_35 rfl (lv_at hl 1 rfl) ?_
      refine pr_i (ru_V (b := a) (As := [.int p1]) (rest := []) ⟨hx, hb, hml, hown, ht⟩ hKN (c_M_placeOf l G _ a w1 w2 w3 ns sd n k lb q g h ik p1 (hP.sub [0, 1, 2, 3] rfl) hn hq) kc_M_78 ⟨rfl, rfl⟩ ⟨Nat.le_of_ble_eq_true rfl, Nat.le_of_ble_eq_true rfl⟩ (va_recv hK hP (ci := 3) (q0 := 0) rfl rfl) rfl hl.1 rfl (Nat.le_of_ble_eq_true rfl) d_M_verdict_36 ⟨Nat.le_of_ble_eq_true rfl, Nat.le_of_ble_eq_true rfl⟩) ?_
      refine lv_istore_n (lv' := [(3, .int (po g p1 q)), (0, .ref a), (1, .int p1), (2, .int p2)]) hx hb d_M_verdict_39 rfl hl (by decide) rfl (fun ls hl => ?_)
      refine lv_iload_n hx hb d_M_verdict_40 rfl (lv_at hl 0 rfl) ?_
      refine lv_iconst (v := (-1)) hx hb d_M_verdict_41 (by decide) ?_
      refine lv_icmp_ne (tgt := 57) hx hb d_M_verdict_42 (by decide) (fun c3 => ?_) (fun c3 => ?_)
      · exact absurd hpo c3
      · refine lv_aload_n hx hb d_M_verdict_45 rfl (lv_at hl 1 rfl) ?_
        refine va_get (D := G.1) (ci := 3) (v := .int (nI q)) (C := R_M) (T := F_M) (N := 10) hx hb ht in_M hown hK hP 0 rfl rfl 6 (by decide) (ht _ kf_M_68) (fun _ h9 => h9) rfl d_M_verdict_46 ?_
        refine lv_bipush (v := 100) hx hb d_M_verdict_49 (by decide) ?_
        refine lv_icmp_ne (tgt := 57) hx hb d_M_verdict_51 (by decide) (fun c4 => ?_) (fun c4 => ?_)
        · refine lv_iload_n hx hb d_M_verdict_57 rfl (lv_at hl 0 rfl) ?_
          refine lv_iconst (v := (-1)) hx hb d_M_verdict_58 (by decide) ?_
          refine lv_icmp_ne (tgt := 77) hx hb d_M_verdict_59 (by decide) (fun c5 => ?_) (fun c5 => ?_)
          · exact absurd hpo c5
          · refine lv_aload_n hx hb d_M_verdict_62 rfl (lv_at hl 1 rfl) ?_
            refine va_get (D := G.1) (ci := 3) (v := .int (nI q)) (C := R_M) (T := F_M) (N := 10) hx hb ht in_M hown hK hP 0 rfl rfl 6 (by decide) (ht _ kf_M_68) (fun _ h9 => h9) rfl d_M_verdict_63 ?_
            refine lv_istore_n (lv' := [(3, .int (nI q)), (0, .ref a), (1, .int p1), (2, .int p2)]) hx hb d_M_verdict_66 rfl hl (by decide) rfl (fun ls hl => ?_)
            refine lv_aload_n hx hb d_M_verdict_67 rfl (lv_at hl 1 rfl) ?_
            refine lv_dup hx hb d_M_verdict_68 rfl ?_
            refine va_get (D := G.1) (ci := 3) (v := .int (nI q)) (C := R_M) (T := F_M) (N := 10) hx hb ht in_M hown hK hP 0 rfl rfl 6 (by decide) (ht _ kf_M_68) (fun _ h9 => h9) rfl d_M_verdict_69 ?_
            refine lv_iconst (v := 1) hx hb d_M_verdict_72 (by decide) ?_
            refine lv_iadd hx hb d_M_verdict_73 ?_
            rw [show nI q + 1 = nI (q + 1) from nI_add q 1]
            refine va_put (D := G.1) (ci := 3) (v := .int (nI (q + 1))) (ty := .int) (C := R_M) (T := F_M) (N := 10) hx hb ht in_M t_M tk_M n_M hown hK hP hD hS 0 rfl rfl 6 (by decide) (ht _ kf_M_68) (fun _ h9 => h9) rfl (by decide +kernel) rfl rfl (Nat.le_of_ble_eq_true rfl) d_M_verdict_74 (fun H locs hP hD hS => ?_)
            have hP : va_P G.1 classes [(a, .inr (3, [.int 0, .long ns, .long sd, .int (nI n), .int k, .int lb, .int (nI (q + 1)), .ref w1, .ref w2, .ref w3])), (w1, .inl (G.2.2.1, 100, .inl g)), (w2, .inl (G.2.2.2, 100, .inl h)), (w3, .inl (G.2.2.1, 10, .inl ik))] H := hP
            have hD : va_D A [(a, .inr (3, [.int 0, .long ns, .long sd, .int (nI n), .int k, .int lb, .int (nI (q + 1)), .ref w1, .ref w2, .ref w3])), (w1, .inl (G.2.2.1, 100, .inl g)), (w2, .inl (G.2.2.2, 100, .inl h)), (w3, .inl (G.2.2.1, 10, .inl ik))] := hD
            refine lv_aload_n hx hb d_M_verdict_77 rfl (lv_at hl 1 rfl) ?_
            refine va_get (D := G.1) (ci := 3) (v := .ref w1) (C := R_M) (T := F_M) (N := 10) hx hb ht in_M hown hK hP 0 rfl rfl 7 (by decide) (ht _ kf_M_7) (fun _ h9 => h9) rfl d_M_verdict_78 ?_
            refine lv_iload_n hx hb d_M_verdict_81 rfl (lv_at hl 0 rfl) ?_
            refine lv_iload_n hx hb d_M_verdict_82 rfl (lv_at hl 2 rfl) ?_
            refine va_iast hx hb hK hP hD hS 1 1 rfl rfl (i := (nI q)) (vp_in_nI (show q < 100 by omega) (by omega)) d_M_verdict_83 (fun H locs hP hD hS => ?_)
            rw [nI_clamp (show q < 2 ^ 31 by omega)] at hP hD
            have hP : va_P G.1 classes [(a, .inr (3, [.int 0, .long ns, .long sd, .int (nI n), .int k, .int lb, .int (nI (q + 1)), .ref w1, .ref w2, .ref w3])), (w1, .inl (G.2.2.1, 100, .inl (upd g q p1))), (w2, .inl (G.2.2.2, 100, .inl h)), (w3, .inl (G.2.2.1, 10, .inl ik))] H := hP
            have hD : va_D A [(a, .inr (3, [.int 0, .long ns, .long sd, .int (nI n), .int k, .int lb, .int (nI (q + 1)), .ref w1, .ref w2, .ref w3])), (w1, .inl (G.2.2.1, 100, .inl (upd g q p1))), (w2, .inl (G.2.2.2, 100, .inl h)), (w3, .inl (G.2.2.1, 10, .inl ik))] := hD
            refine lv_aload_n hx hb d_M_verdict_84 rfl (lv_at hl 1 rfl) ?_
            refine va_get (D := G.1) (ci := 3) (v := .ref w2) (C := R_M) (T := F_M) (N := 10) hx hb ht in_M hown hK hP 0 rfl rfl 8 (by decide) (ht _ kf_M_13) (fun _ h9 => h9) rfl d_M_verdict_85 ?_
            refine lv_iload_n hx hb d_M_verdict_88 rfl (lv_at hl 0 rfl) ?_
            refine lv_iload_n hx hb d_M_verdict_89 rfl (lv_at hl 3 rfl) ?_
            refine va_zast hx hb hK hP hD hS 2 2 rfl rfl (i := (nI q)) (vp_in_nI (show q < 100 by omega) (by omega)) d_M_verdict_90 (fun H locs hP hD hS => ?_)
            rw [nI_clamp (show q < 2 ^ 31 by omega)] at hP hD
            have hP : va_P G.1 classes [(a, .inr (3, [.int 0, .long ns, .long sd, .int (nI n), .int k, .int lb, .int (nI (q + 1)), .ref w1, .ref w2, .ref w3])), (w1, .inl (G.2.2.1, 100, .inl (upd g q p1))), (w2, .inl (G.2.2.2, 100, .inl (upd h q (vp_nar .boolean p2)))), (w3, .inl (G.2.2.1, 10, .inl ik))] H := hP
            have hD : va_D A [(a, .inr (3, [.int 0, .long ns, .long sd, .int (nI n), .int k, .int lb, .int (nI (q + 1)), .ref w1, .ref w2, .ref w3])), (w1, .inl (G.2.2.1, 100, .inl (upd g q p1))), (w2, .inl (G.2.2.2, 100, .inl (upd h q (vp_nar .boolean p2)))), (w3, .inl (G.2.2.1, 10, .inl ik))] := hD
            refine lv_aload_n hx hb d_M_verdict_91 rfl (lv_at hl 1 rfl) ?_
            refine va_get (D := G.1) (ci := 3) (v := .int (nI (q + 1))) (C := R_M) (T := F_M) (N := 10) hx hb ht in_M hown hK hP 0 rfl rfl 6 (by decide) (ht _ kf_M_68) (fun _ h9 => h9) rfl d_M_verdict_92 ?_
            exact W.iret (v := (nI (q + 1))) hx hb hr (fun t h9 _ => ⟨⟨(nI (q + 1)), (), rfl, rfl, by show va_P _ _ _ t.heap; rw [h9]; exact hP⟩, hS.F h9⟩) hS.2.2 d_M_verdict_95
        · exact absurd c4 hq1
    · exact absurd (hvd.symm.trans (by unfold mvd; rw [if_neg c1, if_pos c2])) (by decide)
  · exact absurd (hvd.symm.trans (by unfold mvd; rw [if_pos c1])) (by decide)
theorem nI_nm1 {j : Nat} (h : j < 2 ^ 31) : ¬ nI j = -1 := fun e => nI_pos h (by rw [e]; decide)
set_option maxHeartbeats 4000000 in
set_option maxRecDepth 100000 in
theorem c_M_verdict_old (l : Launch) (G : GT) (H : Heap) (a : Nat) (w1 : Nat) (w2 : Nat) (w3 : Nat) (ns : Int64) (sd : Int64) (n : Nat) (k : Int32) (lb : Int32) (q : Nat) (g : Nat → Int32) (h : Nat → Int32) (ik : Nat → Int32) (p1 : Int32) (p2 : Int32) (i1 : Nat) (hP : va_P G.1 classes [(a, .inr (3, [.int 0, .long ns, .long sd, .int (nI n), .int k, .int lb, .int (nI q), .ref w1, .ref w2, .ref w3])), (w1, .inl (G.2.2.1, 100, .inl g)), (w2, .inl (G.2.2.2, 100, .inl h)), (w3, .inl (G.2.2.1, 10, .inl ik))] H) (hD0 : va_D (fun _ => True) [(a, .inr (3, [.int 0, .long ns, .long sd, .int (nI n), .int k, .int lb, .int (nI q), .ref w1, .ref w2, .ref w3])), (w1, .inl (G.2.2.1, 100, .inl g)), (w2, .inl (G.2.2.2, 100, .inl h)), (w3, .inl (G.2.2.1, 10, .inl ik))]) (hn : n ≤ 16) (hq : q ≤ 100) (hvd : mvd n p1 = 0) (hi1 : i1 < q) (hpo : po g p1 q = nI i1) : Met l y_M_verdict (Cond.code y_M_verdict b_M_verdict 4 (some .int) :: TG) ({ frames := 1, cells := 0, slots := 0, locals := 23 }) (PC G H [.ref a, .int p1, .int p2]) (QMi G (nI q) [(a, .inr (3, [.int 0, .long ns, .long sd, .int (nI n), .int k, .int lb, .int (nI q), .ref w1, .ref w2, .ref w3])), (w1, .inl (G.2.2.1, 100, .inl (upd g i1 p1))), (w2, .inl (G.2.2.2, 100, .inl (upd h i1 (vp_nar .boolean p2)))), (w3, .inl (G.2.2.1, 10, .inl ik))] (va_A [(a, .inr (3, [.int 0, .long ns, .long sd, .int (nI n), .int k, .int lb, .int (nI q), .ref w1, .ref w2, .ref w3])), (w1, .inl (G.2.2.1, 100, .inl g)), (w2, .inl (G.2.2.2, 100, .inl h)), (w3, .inl (G.2.2.1, 10, .inl ik))] H.size)) 0 0 (va_A [(a, .inr (3, [.int 0, .long ns, .long sd, .int (nI n), .int k, .int lb, .int (nI q), .ref w1, .ref w2, .ref w3])), (w1, .inl (G.2.2.1, 100, .inl g)), (w2, .inl (G.2.2.2, 100, .inl h)), (w3, .inl (G.2.2.1, 10, .inl ik))] H.size) := by
  refine Met.ofW (cc := b_M_verdict) (maxL := 4) (ret := (some .int)) (by decide) rfl ?_
  intro p e s m args below meth c s₁ B hml hv
  obtain ⟨rfl, hH, hKN⟩ := hv
  subst hH
  have hx := B.exec
  have hb := B.bytes
  have hr := B.returns
  have hts := atoms_spec (ws := (Cond.code y_M_verdict b_M_verdict 4 (some .int) :: TG)) B.pre
  have ht : ∀ w ∈ TG, w.before _ s = true := fun w h => hts w (List.mem_cons_of_mem _ h)
  have hown : s.vm.findClass R_M = some m.cls := findClass_of_methodNamed B.named
  have hlocks := B.notSynchronized
  have hK := hKN.1
  have hl := lv_entry ([.ref a, .int p1, .int p2]) (n := 4) (Nat.le_of_ble_eq_true rfl)
  rw [lg_entry_eq]
  generalize (lg_sl ([.ref a, .int p1, .int p2]) ++ List.replicate (4 - (lg_sl ([.ref a, .int p1, .int p2])).length) Slot.unset).toArray = ls at hl ⊢
  have hl : lv_has ls 4 [(0, .ref a), (1, .int p1), (2, .int p2)] := hl
  have hD := hD0.self (sz := s.heap.size)
  generalize hAe : va_A [(a, .inr (3, [.int 0, .long ns, .long sd, .int (nI n), .int k, .int lb, .int (nI q), .ref w1, .ref w2, .ref w3])), (w1, .inl (G.2.2.1, 100, .inl g)), (w2, .inl (G.2.2.2, 100, .inl h)), (w3, .inl (G.2.2.1, 10, .inl ik))] s.heap.size = A at hD ⊢
  have hA : ∀ q : Nat, s.heap.size ≤ q → A q := fun q h => by rw [← hAe]; exact Or.inr h
  have hS : va_S A s.heap s.heap [] := va_S.rf
  refine lv_aload_n hx hb d_M_verdict_0 rfl (lv_at hl 0 rfl) ?_
  refine lv_iconst (v := 0) hx hb d_M_verdict_1 (by decide) ?_
  refine va_put (D := G.1) (ci := 3) (v := .int 0) (ty := .int) (C := R_M) (T := F_M) (N := 10) hx hb ht in_M t_M tk_M n_M hown hK hP hD hS 0 rfl rfl 0 (by decide) (ht _ kf_M_24) (fun _ h9 => h9) rfl (by decide +kernel) rfl rfl (Nat.le_of_ble_eq_true rfl) d_M_verdict_2 (fun H locs hP hD hS => ?_)
  have hP : va_P G.1 classes [(a, .inr (3, [.int 0, .long ns, .long sd, .int (nI n), .int k, .int lb, .int (nI q), .ref w1, .ref w2, .ref w3])), (w1, .inl (G.2.2.1, 100, .inl g)), (w2, .inl (G.2.2.2, 100, .inl h)), (w3, .inl (G.2.2.1, 10, .inl ik))] H := hP
  have hD : va_D A [(a, .inr (3, [.int 0, .long ns, .long sd, .int (nI n), .int k, .int lb, .int (nI q), .ref w1, .ref w2, .ref w3])), (w1, .inl (G.2.2.1, 100, .inl g)), (w2, .inl (G.2.2.2, 100, .inl h)), (w3, .inl (G.2.2.1, 10, .inl ik))] := hD
  refine lv_aload_n hx hb d_M_verdict_5 rfl (lv_at hl 0 rfl) ?_
  refine va_get (D := G.1) (ci := 3) (v := .int (nI n)) (C := R_M) (T := F_M) (N := 10) hx hb ht in_M hown hK hP 0 rfl rfl 3 (by decide) (ht _ kf_M_62) (fun _ h9 => h9) rfl d_M_verdict_6 ?_
  refine lv_if_ne (tgt := 15) hx hb d_M_verdict_9 (by decide) (fun c1 => ?_) (fun c1 => ?_)
  · refine lv_iload_n hx hb d_M_verdict_15 rfl (lv_at hl 1 rfl) ?_
    refine lv_iconst (v := 1) hx hb d_M_verdict_16 (by decide) ?_
    refine lv_iconst (v := 1) hx hb d_M_verdict_17 (by decide) ?_
    refine lv_aload_n hx hb d_M_verdict_18 rfl (lv_at hl 0 rfl) ?_
    refine va_get (D := G.1) (ci := 3) (v := .int (nI n)) (C := R_M) (T := F_M) (N := 10) hx hb ht in_M hown hK hP 0 rfl rfl 3 (by decide) (ht _ kf_M_62) (fun _ h9 => h9) rfl d_M_verdict_19 ?_
    refine lv_ishl hx hb d_M_verdict_22 ?_
    refine lv_iconst (v := 1) hx hb d_M_verdict_23 (by decide) ?_
    refine lv_isub hx hb d_M_verdict_24 ?_
    refine pr_i (ru_S (As := [.int p1, .int 1, .int (((1 : Int32) <<< ((nI n) &&& 31)) - 1)]) (rest := []) ⟨hx, hb, hml, hown, ht⟩ hKN (c_M_in l G _ p1 1 (((1 : Int32) <<< ((nI n) &&& 31)) - 1)) kc_M_52 ⟨rfl, rfl⟩ ⟨Nat.le_of_ble_eq_true rfl, Nat.le_of_ble_eq_true rfl⟩ rfl hl.1 rfl (Nat.le_of_ble_eq_true rfl) d_M_verdict_25 ⟨Nat.le_of_ble_eq_true rfl, Nat.le_of_ble_eq_true rfl⟩) ?_
    refine lv_if_ne (tgt := 34) hx hb d_M_verdict_28 (by decide) (fun c2 => ?_) (fun c2 => ?_)
    · refine lv_aload_n hx hb d_M_verdict_34 rfl (lv_at hl 0 rfl) ?_
      refine lv_iload_n hx hb d_M_verdict_35 rfl (lv_at hl 1 rfl) ?_
      refine pr_i (ru_V (b := a) (As := [.int p1]) (rest := []) ⟨hx, hb, hml, hown, ht⟩ hKN (c_M_placeOf l G _ a w1 w2 w3 ns sd n k lb q g h ik p1 (hP.sub [0, 1, 2, 3] rfl) hn hq) kc_M_78 ⟨rfl, rfl⟩ ⟨Nat.le_of_ble_eq_true rfl, Nat.le_of_ble_eq_true rfl⟩ (va_recv hK hP (ci := 3) (q0 := 0) rfl rfl) rfl hl.1 rfl (Nat.le_of_ble_eq_true rfl) d_M_verdict_36 ⟨Nat.le_of_ble_eq_true rfl, Nat.le_of_ble_eq_true rfl⟩) ?_
      rw [hpo]
      refine lv_istore_n (lv' := [(3, .int (nI i1)), (0, .ref a), (1, .int p1), (2, .int p2)]) hx hb d_M_verdict_39 rfl hl (by decide) rfl (fun ls hl => ?_)
      refine lv_iload_n hx hb d_M_verdict_40 rfl (lv_at hl 0 rfl) ?_
      refine lv_iconst (v := (-1)) hx hb d_M_verdict_41 (by decide) ?_
      refine lv_icmp_ne (tgt := 57) hx hb d_M_verdict_42 (by decide) (fun c3 => ?_) (fun c3 => ?_)
      · refine lv_iload_n hx hb d_M_verdict_57 rfl (lv_at hl 0 rfl) ?_
        refine lv_iconst (v := (-1)) hx hb d_M_verdict_58 (by decide) ?_
        refine lv_icmp_ne (tgt := 77) hx hb d_M_verdict_59 (by decide) (fun c4 => ?_) (fun c4 => ?_)
        · refine lv_aload_n hx hb d_M_verdict_77 rfl (lv_at hl 1 rfl) ?_
          refine va_get (D := G.1) (ci := 3) (v := .ref w1) (C := R_M) (T := F_M) (N := 10) hx hb ht in_M hown hK hP 0 rfl rfl 7 (by decide) (ht _ kf_M_7) (fun _ h9 => h9) rfl d_M_verdict_78 ?_
          refine lv_iload_n hx hb d_M_verdict_81 rfl (lv_at hl 0 rfl) ?_
          refine lv_iload_n hx hb d_M_verdict_82 rfl (lv_at hl 2 rfl) ?_
          refine va_iast hx hb hK hP hD hS 1 1 rfl rfl (i := (nI i1)) (vp_in_nI (show i1 < 100 by omega) (by omega)) d_M_verdict_83 (fun H locs hP hD hS => ?_)
          rw [nI_clamp (show i1 < 2 ^ 31 by omega)] at hP hD
          have hP : va_P G.1 classes [(a, .inr (3, [.int 0, .long ns, .long sd, .int (nI n), .int k, .int lb, .int (nI q), .ref w1, .ref w2, .ref w3])), (w1, .inl (G.2.2.1, 100, .inl (upd g i1 p1))), (w2, .inl (G.2.2.2, 100, .inl h)), (w3, .inl (G.2.2.1, 10, .inl ik))] H := hP
          have hD : va_D A [(a, .inr (3, [.int 0, .long ns, .long sd, .int (nI n), .int k, .int lb, .int (nI q), .ref w1, .ref w2, .ref w3])), (w1, .inl (G.2.2.1, 100, .inl (upd g i1 p1))), (w2, .inl (G.2.2.2, 100, .inl h)), (w3, .inl (G.2.2.1, 10, .inl ik))] := hD
          refine lv_aload_n hx hb d_M_verdict_84 rfl (lv_at hl 1 rfl) ?_
          refine va_get (D := G.1) (ci := 3) (v := .ref w2) (C := R_M) (T := F_M) (N := 10) hx hb ht in_M hown hK hP 0 rfl rfl 8 (by decide) (ht _ kf_M_13) (fun _ h9 => h9) rfl d_M_verdict_85 ?_
          refine lv_iload_n hx hb d_M_verdict_88 rfl (lv_at hl 0 rfl) ?_
          refine lv_iload_n hx hb d_M_verdict_89 rfl (lv_at hl 3 rfl) ?_
          refine va_zast hx hb hK hP hD hS 2 2 rfl rfl (i := (nI i1)) (vp_in_nI (show i1 < 100 by omega) (by omega)) d_M_verdict_90 (fun H locs hP hD hS => ?_)
          rw [nI_clamp (show i1 < 2 ^ 31 by omega)] at hP hD
          have hP : va_P G.1 classes [(a, .inr (3, [.int 0, .long ns, .long sd, .int (nI n), .int k, .int lb, .int (nI q), .ref w1, .ref w2, .ref w3])), (w1, .inl (G.2.2.1, 100, .inl (upd g i1 p1))), (w2, .inl (G.2.2.2, 100, .inl (upd h i1 (vp_nar .boolean p2)))), (w3, .inl (G.2.2.1, 10, .inl ik))] H := hP
          have hD : va_D A [(a, .inr (3, [.int 0, .long ns, .long sd, .int (nI n), .int k, .int lb, .int (nI q), .ref w1, .ref w2, .ref w3])), (w1, .inl (G.2.2.1, 100, .inl (upd g i1 p1))), (w2, .inl (G.2.2.2, 100, .inl (upd h i1 (vp_nar .boolean p2)))), (w3, .inl (G.2.2.1, 10, .inl ik))] := hD
          refine lv_aload_n hx hb d_M_verdict_91 rfl (lv_at hl 1 rfl) ?_
          refine va_get (D := G.1) (ci := 3) (v := .int (nI q)) (C := R_M) (T := F_M) (N := 10) hx hb ht in_M hown hK hP 0 rfl rfl 6 (by decide) (ht _ kf_M_68) (fun _ h9 => h9) rfl d_M_verdict_92 ?_
          exact W.iret (v := nI q) hx hb hr (fun t h9 _ => ⟨⟨nI q, (), rfl, rfl, by show va_P _ _ _ t.heap; rw [h9]; exact hP⟩, hS.F h9⟩) hS.2.2 d_M_verdict_95
        · exact absurd c4 (show ¬ nI i1 = -1 from nI_nm1 (by omega))
      · exact absurd c3 (show ¬ nI i1 = -1 from nI_nm1 (by omega))
    · exact absurd (hvd.symm.trans (by unfold mvd; rw [if_neg c1, if_pos c2])) (by decide)
  · exact absurd (hvd.symm.trans (by unfold mvd; rw [if_pos c1])) (by decide)
def lm (lb i : Int32) : Nat → Nat → Int32 → Int32
  | 0, _, _ => -1
  | kk + 1, j, x => if ((lb >>> (nI j &&& 31)) &&& 1) = 1 then (if x = i then nI j else lm lb i kk (j + 1) (x + 1)) else lm lb i kk (j + 1) x
set_option maxHeartbeats 4000000 in
set_option maxRecDepth 100000 in
theorem c_M_left (l : Launch) (G : GT) (H : Heap) (a : Nat) (w1 : Nat) (w2 : Nat) (w3 : Nat) (ns : Int64) (sd : Int64) (n : Nat) (k : Int32) (lb : Int32) (q : Nat) (g : Nat → Int32) (h : Nat → Int32) (ik : Nat → Int32) (p1 : Int32) (hP : va_P G.1 classes [(a, .inr (3, [.int 0, .long ns, .long sd, .int (nI n), .int k, .int lb, .int (nI q), .ref w1, .ref w2, .ref w3])), (w1, .inl (G.2.2.1, 100, .inl g)), (w2, .inl (G.2.2.2, 100, .inl h)), (w3, .inl (G.2.2.1, 10, .inl ik))] H) (hD0 : va_D (fun _ => True) [(a, .inr (3, [.int 0, .long ns, .long sd, .int (nI n), .int k, .int lb, .int (nI q), .ref w1, .ref w2, .ref w3])), (w1, .inl (G.2.2.1, 100, .inl g)), (w2, .inl (G.2.2.2, 100, .inl h)), (w3, .inl (G.2.2.1, 10, .inl ik))]) (hn : n ≤ 16) (hq : q ≤ 100) : Met l y_M_left (Cond.code y_M_left b_M_left 4 (some .int) :: TG) ({ frames := 0, cells := 0, slots := 0, locals := 0 }) (PC G H [.ref a, .int p1]) (QMi G (lm lb p1 n 0 0) [(a, .inr (3, [.int 0, .long ns, .long sd, .int (nI n), .int k, .int lb, .int (nI q), .ref w1, .ref w2, .ref w3])), (w1, .inl (G.2.2.1, 100, .inl g)), (w2, .inl (G.2.2.2, 100, .inl h)), (w3, .inl (G.2.2.1, 10, .inl ik))] (va_A [(a, .inr (3, [.int 0, .long ns, .long sd, .int (nI n), .int k, .int lb, .int (nI q), .ref w1, .ref w2, .ref w3])), (w1, .inl (G.2.2.1, 100, .inl g)), (w2, .inl (G.2.2.2, 100, .inl h)), (w3, .inl (G.2.2.1, 10, .inl ik))] H.size)) 0 0 (va_A [(a, .inr (3, [.int 0, .long ns, .long sd, .int (nI n), .int k, .int lb, .int (nI q), .ref w1, .ref w2, .ref w3])), (w1, .inl (G.2.2.1, 100, .inl g)), (w2, .inl (G.2.2.2, 100, .inl h)), (w3, .inl (G.2.2.1, 10, .inl ik))] H.size) := by
  refine Met.ofW (cc := b_M_left) (maxL := 4) (ret := (some .int)) (by decide) rfl ?_
  intro p e s m args below meth c s₁ B hml hv
  obtain ⟨rfl, hH, hKN⟩ := hv
  subst hH
  have hx := B.exec
  have hb := B.bytes
  have hr := B.returns
  have hts := atoms_spec (ws := (Cond.code y_M_left b_M_left 4 (some .int) :: TG)) B.pre
  have ht : ∀ w ∈ TG, w.before _ s = true := fun w h => hts w (List.mem_cons_of_mem _ h)
  have hown : s.vm.findClass R_M = some m.cls := findClass_of_methodNamed B.named
  have hlocks := B.notSynchronized
  have hK := hKN.1
  have hl := lv_entry ([.ref a, .int p1]) (n := 4) (Nat.le_of_ble_eq_true rfl)
  rw [lg_entry_eq]
  generalize (lg_sl ([.ref a, .int p1]) ++ List.replicate (4 - (lg_sl ([.ref a, .int p1])).length) Slot.unset).toArray = ls at hl ⊢
  have hl : lv_has ls 4 [(0, .ref a), (1, .int p1)] := hl
  have hD := hD0.self (sz := s.heap.size)
  generalize hAe : va_A [(a, .inr (3, [.int 0, .long ns, .long sd, .int (nI n), .int k, .int lb, .int (nI q), .ref w1, .ref w2, .ref w3])), (w1, .inl (G.2.2.1, 100, .inl g)), (w2, .inl (G.2.2.2, 100, .inl h)), (w3, .inl (G.2.2.1, 10, .inl ik))] s.heap.size = A at hD ⊢
  have hA : ∀ q : Nat, s.heap.size ≤ q → A q := fun q h => by rw [← hAe]; exact Or.inr h
  have hS : va_S A s.heap s.heap [] := va_S.rf
  refine lv_aload_n hx hb d_M_left_0 rfl (lv_at hl 0 rfl) ?_
  refine lv_iconst (v := 0) hx hb d_M_left_1 (by decide) ?_
  refine va_put (D := G.1) (ci := 3) (v := .int 0) (ty := .int) (C := R_M) (T := F_M) (N := 10) hx hb ht in_M t_M tk_M n_M hown hK hP hD hS 0 rfl rfl 0 (by decide) (ht _ kf_M_24) (fun _ h9 => h9) rfl (by decide +kernel) rfl rfl (Nat.le_of_ble_eq_true rfl) d_M_left_2 (fun H locs hP hD hS => ?_)
  have hP : va_P G.1 classes [(a, .inr (3, [.int 0, .long ns, .long sd, .int (nI n), .int k, .int lb, .int (nI q), .ref w1, .ref w2, .ref w3])), (w1, .inl (G.2.2.1, 100, .inl g)), (w2, .inl (G.2.2.2, 100, .inl h)), (w3, .inl (G.2.2.1, 10, .inl ik))] H := hP
  have hD : va_D A [(a, .inr (3, [.int 0, .long ns, .long sd, .int (nI n), .int k, .int lb, .int (nI q), .ref w1, .ref w2, .ref w3])), (w1, .inl (G.2.2.1, 100, .inl g)), (w2, .inl (G.2.2.2, 100, .inl h)), (w3, .inl (G.2.2.1, 10, .inl ik))] := hD
  refine lv_iconst (v := 0) hx hb d_M_left_5 (by decide) ?_
  refine lv_istore_n (lv' := [(2, .int 0), (0, .ref a), (1, .int p1)]) hx hb d_M_left_6 rfl hl (by decide) rfl (fun ls hl => ?_)
  refine lv_iconst (v := 0) hx hb d_M_left_7 (by decide) ?_
  refine lv_istore_n (lv' := [(3, .int 0), (2, .int 0), (0, .ref a), (1, .int p1)]) hx hb d_M_left_8 rfl hl (by decide) rfl (fun ls hl => ?_)
  have loop : ∀ (kk j : Nat) (x : Int32) (H : Heap) (locs : List Loc) (ls : Array Slot), j + kk = n → lm lb p1 kk j x = lm lb p1 n 0 0 → va_P G.1 classes [(a, .inr (3, [.int 0, .long ns, .long sd, .int (nI n), .int k, .int lb, .int (nI q), .ref w1, .ref w2, .ref w3])), (w1, .inl (G.2.2.1, 100, .inl g)), (w2, .inl (G.2.2.2, 100, .inl h)), (w3, .inl (G.2.2.1, 10, .inl ik))] H → va_D A [(a, .inr (3, [.int 0, .long ns, .long sd, .int (nI n), .int k, .int lb, .int (nI q), .ref w1, .ref w2, .ref w3])), (w1, .inl (G.2.2.1, 100, .inl g)), (w2, .inl (G.2.2.2, 100, .inl h)), (w3, .inl (G.2.2.1, 10, .inl ik))] → va_S A s.heap H locs → lv_has ls 4 [(0, .ref a), (1, .int p1), (2, .int x), (3, .int (nI j))] → W p l e (headSpec (Cond.code y_M_left b_M_left 4 (some .int) :: TG) ({ frames := 0, cells := 0, slots := 0, locals := 0 })).room s m ([.ref a, .int p1] : List Value).toArray below meth c H locs 0 0 (MQ below (QMi G (lm lb p1 n 0 0) [(a, .inr (3, [.int 0, .long ns, .long sd, .int (nI n), .int k, .int lb, .int (nI q), .ref w1, .ref w2, .ref w3])), (w1, .inl (G.2.2.1, 100, .inl g)), (w2, .inl (G.2.2.2, 100, .inl h)), (w3, .inl (G.2.2.1, 10, .inl ik))] A) ([.ref a, .int p1] : List Value).toArray s 0 0 A) (F0 m 9 ls []) := by
    intro kk
    induction kk with
    | zero =>
      intro j x H locs ls hj hv hP hD hS hl
      refine lv_iload_n hx hb d_M_left_9 rfl (lv_at hl 3 rfl) ?_
      refine lv_aload_n hx hb d_M_left_10 rfl (lv_at hl 0 rfl) ?_
      refine va_get (D := G.1) (ci := 3) (v := .int (nI n)) (C := R_M) (T := F_M) (N := 10) hx hb ht in_M hown hK hP 0 rfl rfl 3 (by decide) (ht _ kf_M_62) (fun _ h9 => h9) rfl d_M_left_11 ?_
      refine lv_icmp_ge (tgt := 45) hx hb d_M_left_14 (by decide) (fun c1 => ?_) (fun c1 => ?_)
      · refine lv_iconst (v := (-1)) hx hb d_M_left_45 (by decide) ?_
        exact W.iret (v := (-1)) hx hb hr (fun t h9 _ => ⟨⟨(-1), (), rfl, (by rw [← hv]; simp only [lm]), by show va_P _ _ _ t.heap; rw [h9]; exact hP⟩, hS.F h9⟩) hS.2.2 d_M_left_46
      · exact absurd (show nI n ≤ nI j from nI_le (by omega) (by omega)) c1
    | succ kk ih =>
      intro j x H locs ls hj hv hP hD hS hl
      refine lv_iload_n hx hb d_M_left_9 rfl (lv_at hl 3 rfl) ?_
      refine lv_aload_n hx hb d_M_left_10 rfl (lv_at hl 0 rfl) ?_
      refine va_get (D := G.1) (ci := 3) (v := .int (nI n)) (C := R_M) (T := F_M) (N := 10) hx hb ht in_M hown hK hP 0 rfl rfl 3 (by decide) (ht _ kf_M_62) (fun _ h9 => h9) rfl d_M_left_11 ?_
      refine lv_icmp_ge (tgt := 45) hx hb d_M_left_14 (by decide) (fun c2 => ?_) (fun c2 => ?_)
      · exact absurd c2 (nI_ge (show j < n by omega) (by omega))
      · refine lv_aload_n hx hb d_M_left_17 rfl (lv_at hl 0 rfl) ?_
        refine va_get (D := G.1) (ci := 3) (v := .int lb) (C := R_M) (T := F_M) (N := 10) hx hb ht in_M hown hK hP 0 rfl rfl 5 (by decide) (ht _ kf_M_65) (fun _ h9 => h9) rfl d_M_left_18 ?_
        refine lv_iload_n hx hb d_M_left_21 rfl (lv_at hl 3 rfl) ?_
        refine lv_ishr hx hb d_M_left_22 ?_
        refine lv_iconst (v := 1) hx hb d_M_left_23 (by decide) ?_
        refine lv_iand hx hb d_M_left_24 ?_
        refine lv_iconst (v := 1) hx hb d_M_left_25 (by decide) ?_
        refine lv_icmp_ne (tgt := 39) hx hb d_M_left_26 (by decide) (fun c3 => ?_) (fun c3 => ?_)
        · refine lv_iinc (v := nI (j + 1)) (lv' := [(3, .int (nI (j + 1))), (0, .ref a), (1, .int p1), (2, .int x)]) hx hb d_M_left_39 hl (k := 3) rfl (nI_1 j) (by decide) rfl (fun ls hl => ?_)
          refine lv_goto (tgt := 9) hx hb d_M_left_42 (by decide) ?_
          exact ih (j + 1) x H locs ls (by omega) (by rw [← hv]; simp only [lm]; rw [if_neg c3]) hP hD hS (lv_sub hl [1, 2, 3, 0] rfl)
        · refine lv_iload_n hx hb d_M_left_29 rfl (lv_at hl 2 rfl) ?_
          refine lv_iload_n hx hb d_M_left_30 rfl (lv_at hl 1 rfl) ?_
          refine lv_icmp_ne (tgt := 36) hx hb d_M_left_31 (by decide) (fun c4 => ?_) (fun c4 => ?_)
          · refine lv_iinc (v := x + 1) (lv' := [(2, .int (x + 1)), (0, .ref a), (1, .int p1), (3, .int (nI j))]) hx hb d_M_left_36 hl (k := 2) rfl rfl (by decide) rfl (fun ls hl => ?_)
            refine lv_iinc (v := nI (j + 1)) (lv' := [(3, .int (nI (j + 1))), (2, .int (x + 1)), (0, .ref a), (1, .int p1)]) hx hb d_M_left_39 hl (k := 3) rfl (nI_1 j) (by decide) rfl (fun ls hl => ?_)
            refine lv_goto (tgt := 9) hx hb d_M_left_42 (by decide) ?_
            exact ih (j + 1) (x + 1) H locs ls (by omega) (by rw [← hv]; simp only [lm]; rw [if_pos c3, if_neg c4]) hP hD hS (lv_sub hl [2, 3, 1, 0] rfl)
          · refine lv_iload_n hx hb d_M_left_34 rfl (lv_at hl 3 rfl) ?_
            exact W.iret (v := nI j) hx hb hr (fun t h9 _ => ⟨⟨nI j, (), rfl, (by rw [← hv]; simp only [lm]; rw [if_pos c3, if_pos c4]), by show va_P _ _ _ t.heap; rw [h9]; exact hP⟩, hS.F h9⟩) hS.2.2 d_M_left_35
  exact loop n 0 0 _ _ ls (by omega) rfl hP hD hS (by exact lv_sub hl [2, 3, 1, 0] rfl)
