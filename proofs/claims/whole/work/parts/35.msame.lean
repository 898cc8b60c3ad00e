set_option maxHeartbeats 4000000 in
set_option maxRecDepth 100000 in
theorem c_M_same_no (l : Launch) (G : GT) (H : Heap) (a : Nat) (w1 : Nat) (w2 : Nat) (w3 : Nat) (ns : Int64) (sd : Int64) (n : Nat) (k : Int32) (lb : Int32) (q : Nat) (g : Nat → Int32) (h : Nat → Int32) (ik : Nat → Int32) (s1 : Int64) (p1 : Int32) (p2 : Int32) (hP : va_P G.1 classes [(a, .inr (3, [.int 0, .long ns, .long sd, .int (nI n), .int k, .int lb, .int (nI q), .ref w1, .ref w2, .ref w3])), (w1, .inl (G.2.2.1, 100, .inl g)), (w2, .inl (G.2.2.2, 100, .inl h)), (w3, .inl (G.2.2.1, 10, .inl ik))] H) (hD0 : va_D (fun _ => True) [(a, .inr (3, [.int 0, .long ns, .long sd, .int (nI n), .int k, .int lb, .int (nI q), .ref w1, .ref w2, .ref w3])), (w1, .inl (G.2.2.1, 100, .inl g)), (w2, .inl (G.2.2.2, 100, .inl h)), (w3, .inl (G.2.2.1, 10, .inl ik))]) (hn : n ≤ 16) (hq : q ≤ 100) (hdr : mdr p1 p2 = 0) : Met l y_M_same (Cond.code y_M_same b_M_same 8 (some .boolean) :: TG) ({ frames := 1, cells := 0, slots := 0, locals := 22 }) (PC G H [.ref a, .long s1, .int p1, .int p2]) (QMi G (0) [(a, .inr (3, [.int 0, .long ns, .long sd, .int (nI n), .int k, .int lb, .int (nI q), .ref w1, .ref w2, .ref w3])), (w1, .inl (G.2.2.1, 100, .inl g)), (w2, .inl (G.2.2.2, 100, .inl h)), (w3, .inl (G.2.2.1, 10, .inl ik))] (va_A [(a, .inr (3, [.int 0, .long ns, .long sd, .int (nI n), .int k, .int lb, .int (nI q), .ref w1, .ref w2, .ref w3])), (w1, .inl (G.2.2.1, 100, .inl g)), (w2, .inl (G.2.2.2, 100, .inl h)), (w3, .inl (G.2.2.1, 10, .inl ik))] H.size)) 0 0 (va_A [(a, .inr (3, [.int 0, .long ns, .long sd, .int (nI n), .int k, .int lb, .int (nI q), .ref w1, .ref w2, .ref w3])), (w1, .inl (G.2.2.1, 100, .inl g)), (w2, .inl (G.2.2.2, 100, .inl h)), (w3, .inl (G.2.2.1, 10, .inl ik))] H.size) := by
  refine Met.ofW (cc := b_M_same) (maxL := 8) (ret := (some .boolean)) (by decide) rfl ?_
  intro p e s m args below meth c s₁ B hml hv
  obtain ⟨rfl, hH, hKN⟩ := hv
  subst hH
  have hx := B.exec
  have hb := B.bytes
  have hr := B.returns
  have hts := atoms_spec (ws := (Cond.code y_M_same b_M_same 8 (some .boolean) :: TG)) B.pre
  have ht : ∀ w ∈ TG, w.before _ s = true := fun w h => hts w (List.mem_cons_of_mem _ h)
  have hown : s.vm.findClass R_M = some m.cls := findClass_of_methodNamed B.named
  have hlocks := B.notSynchronized
  have hK := hKN.1
  have hl := lv_entry ([.ref a, .long s1, .int p1, .int p2]) (n := 8) (Nat.le_of_ble_eq_true rfl)
  rw [lg_entry_eq]
  generalize (lg_sl ([.ref a, .long s1, .int p1, .int p2]) ++ List.replicate (8 - (lg_sl ([.ref a, .long s1, .int p1, .int p2])).length) Slot.unset).toArray = ls at hl ⊢
  have hl : lv_has ls 8 [(0, .ref a), (1, .long s1), (3, .int p1), (4, .int p2)] := hl
  have hD := hD0.self (sz := s.heap.size)
  generalize hAe : va_A [(a, .inr (3, [.int 0, .long ns, .long sd, .int (nI n), .int k, .int lb, .int (nI q), .ref w1, .ref w2, .ref w3])), (w1, .inl (G.2.2.1, 100, .inl g)), (w2, .inl (G.2.2.2, 100, .inl h)), (w3, .inl (G.2.2.1, 10, .inl ik))] s.heap.size = A at hD ⊢
  have hA : ∀ q : Nat, s.heap.size ≤ q → A q := fun q h => by rw [← hAe]; exact Or.inr h
  have hS : va_S A s.heap s.heap [] := va_S.rf
  refine lv_aload_n hx hb d_M_same_0 rfl (lv_at hl 0 rfl) ?_
  refine lv_iconst (v := 0) hx hb d_M_same_1 (by decide) ?_
  refine va_put (D := G.1) (ci := 3) (v := .int 0) (ty := .int) (C := R_M) (T := F_M) (N := 10) hx hb ht in_M t_M tk_M n_M hown hK hP hD hS 0 rfl rfl 0 (by decide) (ht _ kf_M_24) (fun _ h9 => h9) rfl (by decide +kernel) rfl rfl (Nat.le_of_ble_eq_true rfl) d_M_same_2 (fun H locs hP hD hS => ?_)
  have hP : va_P G.1 classes [(a, .inr (3, [.int 0, .long ns, .long sd, .int (nI n), .int k, .int lb, .int (nI q), .ref w1, .ref w2, .ref w3])), (w1, .inl (G.2.2.1, 100, .inl g)), (w2, .inl (G.2.2.2, 100, .inl h)), (w3, .inl (G.2.2.1, 10, .inl ik))] H := hP
  have hD : va_D A [(a, .inr (3, [.int 0, .long ns, .long sd, .int (nI n), .int k, .int lb, .int (nI q), .ref w1, .ref w2, .ref w3])), (w1, .inl (G.2.2.1, 100, .inl g)), (w2, .inl (G.2.2.2, 100, .inl h)), (w3, .inl (G.2.2.1, 10, .inl ik))] := hD
  refine lv_iload_n hx hb d_M_same_5 rfl (lv_at hl 2 rfl) ?_
  refine lv_iconst (v := 0) hx hb d_M_same_6 (by decide) ?_
  refine lv_iconst (v := 4) hx hb d_M_same_7 (by decide) ?_
  refine pr_i (ru_S (As := [.int p1, .int 0, .int 4]) (rest := []) ⟨hx, hb, hml, hown, ht⟩ hKN (c_M_in l G _ p1 0 4) kc_M_52 ⟨rfl, rfl⟩ ⟨Nat.le_of_ble_eq_true rfl, Nat.le_of_ble_eq_true rfl⟩ rfl hl.1 rfl (Nat.le_of_ble_eq_true rfl) d_M_same_8 ⟨Nat.le_of_ble_eq_true rfl, Nat.le_of_ble_eq_true rfl⟩) ?_
  refine lv_if_eq (tgt := 29) hx hb d_M_same_11 (by decide) (fun c1 => ?_) (fun c1 => ?_)
  · refine lv_iconst (v := 0) hx hb d_M_same_29 (by decide) ?_
    refine lv_istore (lv' := [(5, .int 0), (0, .ref a), (1, .long s1), (3, .int p1), (4, .int p2)]) hx hb d_M_same_30 hl (by decide) rfl (fun ls hl => ?_)
    refine lv_iconst (v := 0) hx hb d_M_same_32 (by decide) ?_
    refine lv_istore (lv' := [(6, .int 0), (5, .int 0), (0, .ref a), (1, .long s1), (3, .int p1), (4, .int p2)]) hx hb d_M_same_33 hl (by decide) rfl (fun ls hl => ?_)
    refine lv_iload hx hb d_M_same_35 (lv_at hl 1 rfl) ?_
    refine lv_if_eq (tgt := 150) hx hb d_M_same_37 (by decide) (fun _ => ?_) (fun c2 => absurd (by decide) c2)
    refine lv_iload hx hb d_M_same_150 (lv_at hl 1 rfl) ?_
    exact W.zret (v := 0) hx hb hr rfl (fun t h9 _ => ⟨⟨0, (), rfl, rfl, by show va_P _ _ _ t.heap; rw [h9]; exact hP⟩, hS.F h9⟩) hS.2.2 d_M_same_152
  · refine lv_iload hx hb d_M_same_14 (lv_at hl 3 rfl) ?_
    refine lv_iconst (v := 0) hx hb d_M_same_16 (by decide) ?_
    refine lv_bipush (v := 15) hx hb d_M_same_17 (by decide) ?_
    refine pr_i (ru_S (As := [.int p2, .int 0, .int 15]) (rest := []) ⟨hx, hb, hml, hown, ht⟩ hKN (c_M_in l G _ p2 0 15) kc_M_52 ⟨rfl, rfl⟩ ⟨Nat.le_of_ble_eq_true rfl, Nat.le_of_ble_eq_true rfl⟩ rfl hl.1 rfl (Nat.le_of_ble_eq_true rfl) d_M_same_19 ⟨Nat.le_of_ble_eq_true rfl, Nat.le_of_ble_eq_true rfl⟩) ?_
    refine lv_if_eq (tgt := 29) hx hb d_M_same_22 (by decide) (fun c3 => ?_) (fun c3 => ?_)
    · refine lv_iconst (v := 0) hx hb d_M_same_29 (by decide) ?_
      refine lv_istore (lv' := [(5, .int 0), (0, .ref a), (1, .long s1), (3, .int p1), (4, .int p2)]) hx hb d_M_same_30 hl (by decide) rfl (fun ls hl => ?_)
      refine lv_iconst (v := 0) hx hb d_M_same_32 (by decide) ?_
      refine lv_istore (lv' := [(6, .int 0), (5, .int 0), (0, .ref a), (1, .long s1), (3, .int p1), (4, .int p2)]) hx hb d_M_same_33 hl (by decide) rfl (fun ls hl => ?_)
      refine lv_iload hx hb d_M_same_35 (lv_at hl 1 rfl) ?_
      refine lv_if_eq (tgt := 150) hx hb d_M_same_37 (by decide) (fun _ => ?_) (fun c4 => absurd (by decide) c4)
      refine lv_iload hx hb d_M_same_150 (lv_at hl 1 rfl) ?_
      exact W.zret (v := 0) hx hb hr rfl (fun t h9 _ => ⟨⟨0, (), rfl, rfl, by show va_P _ _ _ t.heap; rw [h9]; exact hP⟩, hS.F h9⟩) hS.2.2 d_M_same_152
    · exact absurd (hdr.symm.trans (by unfold mdr; rw [if_neg c1, if_neg c3])) (by decide)
def si (s1 ns : Int64) (k : Int32) (i : Nat) : Nat → Nat → Int32 → Int32
  | 0, _, x => x
  | kk + 1, w, x => si s1 ns k i kk (w + 1) (if x = 0 then 0 else if fn_M_fact (zN s1 k (nI i)) (nI w) = fn_M_fact (zN ns k (nI i)) (nI w) then 1 else 0)
def so (s1 ns : Int64) (k : Int32) (n1 : Nat) : Nat → Nat → Int32 → Int32
  | 0, _, x => x
  | kk + 1, i, x => if x = 0 then x else so s1 ns k n1 kk (i + 1) (if si s1 ns k i 4 1 x = 0 then 0 else if hf s1 k n1 (nI i) = hf ns k n1 (nI i) then 1 else 0)
theorem so01 (s1 ns : Int64) (k : Int32) (n1 : Nat) : ∀ kk i x, (x = 0 ∨ x = 1) → (so s1 ns k n1 kk i x = 0 ∨ so s1 ns k n1 kk i x = 1)
  | 0, _, _, h => h
  | kk + 1, i, x, h => by
    unfold so
    split
    · exact h
    · apply so01
      split
      · exact Or.inl rfl
      · split
        · exact Or.inr rfl
        · exact Or.inl rfl
theorem nar01 {x : Int32} (h : x = 0 ∨ x = 1) : narrow .boolean (.int x) = .int x := by
  rcases h with rfl | rfl <;> rfl
set_option maxHeartbeats 4000000 in
set_option maxRecDepth 100000 in
theorem c_M_same (l : Launch) (G : GT) (H : Heap) (a : Nat) (w1 : Nat) (w2 : Nat) (w3 : Nat) (ns : Int64) (sd : Int64) (n : Nat) (k : Int32) (lb : Int32) (q : Nat) (g : Nat → Int32) (h : Nat → Int32) (ik : Nat → Int32) (s1 : Int64) (p1 : Int32) (p2 : Nat) (hP : va_P G.1 classes [(a, .inr (3, [.int 0, .long ns, .long sd, .int (nI n), .int k, .int lb, .int (nI q), .ref w1, .ref w2, .ref w3])), (w1, .inl (G.2.2.1, 100, .inl g)), (w2, .inl (G.2.2.2, 100, .inl h)), (w3, .inl (G.2.2.1, 10, .inl ik))] H) (hD0 : va_D (fun _ => True) [(a, .inr (3, [.int 0, .long ns, .long sd, .int (nI n), .int k, .int lb, .int (nI q), .ref w1, .ref w2, .ref w3])), (w1, .inl (G.2.2.1, 100, .inl g)), (w2, .inl (G.2.2.2, 100, .inl h)), (w3, .inl (G.2.2.1, 10, .inl ik))]) (hn : n ≤ 16) (hq : q ≤ 100) (hdr : ¬ mdr p1 (nI p2) = 0) (hp2 : p2 < 16) : Met l y_M_same (Cond.code y_M_same b_M_same 8 (some .boolean) :: TG) ({ frames := 2, cells := 0, slots := 0, locals := 55 }) (PC G H [.ref a, .long s1, .int p1, .int (nI p2)]) (QMi G (so s1 ns p1 (p2 + 1) (p2 + 1) 0 1) [(a, .inr (3, [.int 0, .long ns, .long sd, .int (nI n), .int k, .int lb, .int (nI q), .ref w1, .ref w2, .ref w3])), (w1, .inl (G.2.2.1, 100, .inl g)), (w2, .inl (G.2.2.2, 100, .inl h)), (w3, .inl (G.2.2.1, 10, .inl ik))] (va_A [(a, .inr (3, [.int 0, .long ns, .long sd, .int (nI n), .int k, .int lb, .int (nI q), .ref w1, .ref w2, .ref w3])), (w1, .inl (G.2.2.1, 100, .inl g)), (w2, .inl (G.2.2.2, 100, .inl h)), (w3, .inl (G.2.2.1, 10, .inl ik))] H.size)) 0 0 (va_A [(a, .inr (3, [.int 0, .long ns, .long sd, .int (nI n), .int k, .int lb, .int (nI q), .ref w1, .ref w2, .ref w3])), (w1, .inl (G.2.2.1, 100, .inl g)), (w2, .inl (G.2.2.2, 100, .inl h)), (w3, .inl (G.2.2.1, 10, .inl ik))] H.size) := by
  refine Met.ofW (cc := b_M_same) (maxL := 8) (ret := (some .boolean)) (by decide) rfl ?_
  intro p e s m args below meth c s₁ B hml hv
  obtain ⟨rfl, hH, hKN⟩ := hv
  subst hH
  have hx := B.exec
  have hb := B.bytes
  have hr := B.returns
  have hts := atoms_spec (ws := (Cond.code y_M_same b_M_same 8 (some .boolean) :: TG)) B.pre
  have ht : ∀ w ∈ TG, w.before _ s = true := fun w h => hts w (List.mem_cons_of_mem _ h)
  have hown : s.vm.findClass R_M = some m.cls := findClass_of_methodNamed B.named
  have hlocks := B.notSynchronized
  have hK := hKN.1
  have hl := lv_entry ([.ref a, .long s1, .int p1, .int (nI p2)]) (n := 8) (Nat.le_of_ble_eq_true rfl)
  rw [lg_entry_eq]
  generalize (lg_sl ([.ref a, .long s1, .int p1, .int (nI p2)]) ++ List.replicate (8 - (lg_sl ([.ref a, .long s1, .int p1, .int (nI p2)])).length) Slot.unset).toArray = ls at hl ⊢
  have hl : lv_has ls 8 [(0, .ref a), (1, .long s1), (3, .int p1), (4, .int (nI p2))] := hl
  have hD := hD0.self (sz := s.heap.size)
  generalize hAe : va_A [(a, .inr (3, [.int 0, .long ns, .long sd, .int (nI n), .int k, .int lb, .int (nI q), .ref w1, .ref w2, .ref w3])), (w1, .inl (G.2.2.1, 100, .inl g)), (w2, .inl (G.2.2.2, 100, .inl h)), (w3, .inl (G.2.2.1, 10, .inl ik))] s.heap.size = A at hD ⊢
  have hA : ∀ q : Nat, s.heap.size ≤ q → A q := fun q h => by rw [← hAe]; exact Or.inr h
  have hS : va_S A s.heap s.heap [] := va_S.rf
  refine lv_aload_n hx hb d_M_same_0 rfl (lv_at hl 0 rfl) ?_
  refine lv_iconst (v := 0) hx hb d_M_same_1 (by decide) ?_
  refine va_put (D := G.1) (ci := 3) (v := .int 0) (ty := .int) (C := R_M) (T := F_M) (N := 10) hx hb ht in_M t_M tk_M n_M hown hK hP hD hS 0 rfl rfl 0 (by decide) (ht _ kf_M_24) (fun _ h9 => h9) rfl (by decide +kernel) rfl rfl (Nat.le_of_ble_eq_true rfl) d_M_same_2 (fun H locs hP hD hS => ?_)
  have hP : va_P G.1 classes [(a, .inr (3, [.int 0, .long ns, .long sd, .int (nI n), .int k, .int lb, .int (nI q), .ref w1, .ref w2, .ref w3])), (w1, .inl (G.2.2.1, 100, .inl g)), (w2, .inl (G.2.2.2, 100, .inl h)), (w3, .inl (G.2.2.1, 10, .inl ik))] H := hP
  have hD : va_D A [(a, .inr (3, [.int 0, .long ns, .long sd, .int (nI n), .int k, .int lb, .int (nI q), .ref w1, .ref w2, .ref w3])), (w1, .inl (G.2.2.1, 100, .inl g)), (w2, .inl (G.2.2.2, 100, .inl h)), (w3, .inl (G.2.2.1, 10, .inl ik))] := hD
  refine lv_iload_n hx hb d_M_same_5 rfl (lv_at hl 2 rfl) ?_
  refine lv_iconst (v := 0) hx hb d_M_same_6 (by decide) ?_
  refine lv_iconst (v := 4) hx hb d_M_same_7 (by decide) ?_
  refine pr_i (ru_S (As := [.int p1, .int 0, .int 4]) (rest := []) ⟨hx, hb, hml, hown, ht⟩ hKN (c_M_in l G _ p1 0 4) kc_M_52 ⟨rfl, rfl⟩ ⟨Nat.le_of_ble_eq_true rfl, Nat.le_of_ble_eq_true rfl⟩ rfl hl.1 rfl (Nat.le_of_ble_eq_true rfl) d_M_same_8 ⟨Nat.le_of_ble_eq_true rfl, Nat.le_of_ble_eq_true rfl⟩) ?_
  refine lv_if_eq (tgt := 29) hx hb d_M_same_11 (by decide) (fun c1 => ?_) (fun c1 => ?_)
  · exact absurd (by unfold mdr; rw [if_pos c1]) hdr
  · refine lv_iload hx hb d_M_same_14 (lv_at hl 3 rfl) ?_
    refine lv_iconst (v := 0) hx hb d_M_same_16 (by decide) ?_
    refine lv_bipush (v := 15) hx hb d_M_same_17 (by decide) ?_
    refine pr_i (ru_S (As := [.int (nI p2), .int 0, .int 15]) (rest := []) ⟨hx, hb, hml, hown, ht⟩ hKN (c_M_in l G _ (nI p2) 0 15) kc_M_52 ⟨rfl, rfl⟩ ⟨Nat.le_of_ble_eq_true rfl, Nat.le_of_ble_eq_true rfl⟩ rfl hl.1 rfl (Nat.le_of_ble_eq_true rfl) d_M_same_19 ⟨Nat.le_of_ble_eq_true rfl, Nat.le_of_ble_eq_true rfl⟩) ?_
    refine lv_if_eq (tgt := 29) hx hb d_M_same_22 (by decide) (fun c2 => ?_) (fun c2 => ?_)
    · exact absurd (by unfold mdr; rw [if_neg c1, if_pos c2]) hdr
    · refine lv_iconst (v := 1) hx hb d_M_same_25 (by decide) ?_
      refine lv_goto (tgt := 30) hx hb d_M_same_26 (by decide) ?_
      refine lv_istore (lv' := [(5, .int 1), (0, .ref a), (1, .long s1), (3, .int p1), (4, .int (nI p2))]) hx hb d_M_same_30 hl (by decide) rfl (fun ls hl => ?_)
      refine lv_iconst (v := 0) hx hb d_M_same_32 (by decide) ?_
      refine lv_istore (lv' := [(6, .int 0), (5, .int 1), (0, .ref a), (1, .long s1), (3, .int p1), (4, .int (nI p2))]) hx hb d_M_same_33 hl (by decide) rfl (fun ls hl => ?_)
      have loop : ∀ (kk j : Nat) (x : Int32) (ls : Array Slot), j + kk = p2 + 1 → so s1 ns p1 (p2 + 1) kk j x = so s1 ns p1 (p2 + 1) (p2 + 1) 0 1 → lv_has ls 8 [(0, .ref a), (1, .long s1), (3, .int p1), (4, .int (nI p2)), (5, .int x), (6, .int (nI j))] → W p l e (headSpec (Cond.code y_M_same b_M_same 8 (some .boolean) :: TG) ({ frames := 2, cells := 0, slots := 0, locals := 55 })).room s m ([.ref a, .long s1, .int p1, .int (nI p2)] : List Value).toArray below meth c H locs 0 0 (MQ below (QMi G (so s1 ns p1 (p2 + 1) (p2 + 1) 0 1) [(a, .inr (3, [.int 0, .long ns, .long sd, .int (nI n), .int k, .int lb, .int (nI q), .ref w1, .ref w2, .ref w3])), (w1, .inl (G.2.2.1, 100, .inl g)), (w2, .inl (G.2.2.2, 100, .inl h)), (w3, .inl (G.2.2.1, 10, .inl ik))] A) ([.ref a, .long s1, .int p1, .int (nI p2)] : List Value).toArray s 0 0 A) (F0 m 35 ls []) := by
        intro kk
        induction kk with
        | zero =>
          intro j x ls hj hv hl
          refine lv_iload hx hb d_M_same_35 (lv_at hl 4 rfl) ?_
          refine lv_if_eq (tgt := 150) hx hb d_M_same_37 (by decide) (fun c3 => ?_) (fun c3 => ?_)
          · refine lv_iload hx hb d_M_same_150 (lv_at hl 4 rfl) ?_
            exact W.zret (v := x) hx hb hr (nar01 (show x = 0 ∨ x = 1 from (show x = so s1 ns p1 (p2 + 1) (p2 + 1) 0 1 from (by rw [← hv]; simp only [so])).symm ▸ so01 s1 ns p1 (p2 + 1) (p2 + 1) 0 1 (Or.inr rfl))) (fun t h9 _ => ⟨⟨x, (), rfl, (by rw [← hv]; simp only [so]), by show va_P _ _ _ t.heap; rw [h9]; exact hP⟩, hS.F h9⟩) hS.2.2 d_M_same_152
          · refine lv_iload hx hb d_M_same_40 (lv_at hl 5 rfl) ?_
            refine lv_iload hx hb d_M_same_42 (lv_at hl 3 rfl) ?_
            refine lv_icmp_gt (tgt := 150) hx hb d_M_same_44 (by decide) (fun c4 => ?_) (fun c4 => ?_)
            · refine lv_iload hx hb d_M_same_150 (lv_at hl 4 rfl) ?_
              exact W.zret (v := x) hx hb hr (nar01 (show x = 0 ∨ x = 1 from (show x = so s1 ns p1 (p2 + 1) (p2 + 1) 0 1 from (by rw [← hv]; simp only [so])).symm ▸ so01 s1 ns p1 (p2 + 1) (p2 + 1) 0 1 (Or.inr rfl))) (fun t h9 _ => ⟨⟨x, (), rfl, (by rw [← hv]; simp only [so]), by show va_P _ _ _ t.heap; rw [h9]; exact hP⟩, hS.F h9⟩) hS.2.2 d_M_same_152
            · exact absurd (show nI p2 < nI j from nI_lt (by omega) (by omega)) c4
        | succ kk ih =>
          intro j x ls hj hv hl
          refine lv_iload hx hb d_M_same_35 (lv_at hl 4 rfl) ?_
          refine lv_if_eq (tgt := 150) hx hb d_M_same_37 (by decide) (fun c5 => ?_) (fun c5 => ?_)
          · refine lv_iload hx hb d_M_same_150 (lv_at hl 4 rfl) ?_
            exact W.zret (v := x) hx hb hr (nar01 (show x = 0 ∨ x = 1 from (show x = so s1 ns p1 (p2 + 1) (p2 + 1) 0 1 from (by rw [← hv]; simp only [so]; rw [if_pos c5])).symm ▸ so01 s1 ns p1 (p2 + 1) (p2 + 1) 0 1 (Or.inr rfl))) (fun t h9 _ => ⟨⟨x, (), rfl, (by rw [← hv]; simp only [so]; rw [if_pos c5]), by show va_P _ _ _ t.heap; rw [h9]; exact hP⟩, hS.F h9⟩) hS.2.2 d_M_same_152
          · refine lv_iload hx hb d_M_same_40 (lv_at hl 5 rfl) ?_
            refine lv_iload hx hb d_M_same_42 (lv_at hl 3 rfl) ?_
            refine lv_icmp_gt (tgt := 150) hx hb d_M_same_44 (by decide) (fun c6 => ?_) (fun c6 => ?_)
            · exact absurd c6 (nI_nlt (show j ≤ p2 by omega) (by omega))
            · refine lv_iconst (v := 1) hx hb d_M_same_47 (by decide) ?_
              refine lv_istore (lv' := [(7, .int 1), (0, .ref a), (1, .long s1), (3, .int p1), (4, .int (nI p2)), (5, .int x), (6, .int (nI j))]) hx hb d_M_same_48 hl (by decide) rfl (fun ls hl => ?_)
              have loop2 : ∀ (kk2 j2 : Nat) (x2 : Int32) (ls : Array Slot), j2 + kk2 = 5 → si s1 ns p1 j kk2 j2 x2 = si s1 ns p1 j 4 1 x → lv_has ls 8 [(0, .ref a), (1, .long s1), (3, .int p1), (4, .int (nI p2)), (5, .int x2), (6, .int (nI j)), (7, .int (nI j2))] → W p l e (headSpec (Cond.code y_M_same b_M_same 8 (some .boolean) :: TG) ({ frames := 2, cells := 0, slots := 0, locals := 55 })).room s m ([.ref a, .long s1, .int p1, .int (nI p2)] : List Value).toArray below meth c H locs 0 0 (MQ below (QMi G (so s1 ns p1 (p2 + 1) (p2 + 1) 0 1) [(a, .inr (3, [.int 0, .long ns, .long sd, .int (nI n), .int k, .int lb, .int (nI q), .ref w1, .ref w2, .ref w3])), (w1, .inl (G.2.2.1, 100, .inl g)), (w2, .inl (G.2.2.2, 100, .inl h)), (w3, .inl (G.2.2.1, 10, .inl ik))] A) ([.ref a, .long s1, .int p1, .int (nI p2)] : List Value).toArray s 0 0 A) (F0 m 50 ls []) := by
                intro kk2
                induction kk2 with
                | zero =>
                  intro j2 x2 ls hj2 hv2 hl
                  refine lv_iload hx hb d_M_same_50 (lv_at hl 6 rfl) ?_
                  refine lv_iconst (v := 5) hx hb d_M_same_52 (by decide) ?_
                  refine lv_icmp_ge (tgt := 104) hx hb d_M_same_53 (by decide) (fun c7 => ?_) (fun c7 => ?_)
                  · refine lv_iload hx hb d_M_same_104 (lv_at hl 4 rfl) ?_
                    refine lv_if_eq (tgt := 141) hx hb d_M_same_106 (by decide) (fun c8 => ?_) (fun c8 => ?_)
                    · refine lv_iconst (v := 0) hx hb d_M_same_141 (by decide) ?_
                      refine lv_istore (lv' := [(5, .int 0), (0, .ref a), (1, .long s1), (3, .int p1), (4, .int (nI p2)), (6, .int (nI j)), (7, .int (nI j2))]) hx hb d_M_same_142 hl (by decide) rfl (fun ls hl => ?_)
                      refine lv_iinc (v := nI (j + 1)) (lv' := [(6, .int (nI (j + 1))), (5, .int 0), (0, .ref a), (1, .long s1), (3, .int p1), (4, .int (nI p2)), (7, .int (nI j2))]) hx hb d_M_same_144 hl (k := 5) rfl (nI_1 j) (by decide) rfl (fun ls hl => ?_)
                      refine lv_goto (tgt := 35) hx hb d_M_same_147 (by decide) ?_
                      have hy : si s1 ns p1 j 4 1 x = x2 := hv2.symm
                      exact ih (j + 1) 0 ls (by omega) (by rw [← hv]; simp only [so]; rw [if_neg c5, hy, if_pos c8]) (by exact lv_sub hl [2, 3, 4, 5, 1, 0] rfl)
                    · refine lv_lload_n hx hb d_M_same_109 rfl (lv_at hl 1 rfl) ?_
                      refine lv_iload_n hx hb d_M_same_110 rfl (lv_at hl 2 rfl) ?_
                      refine lv_iload hx hb d_M_same_111 (lv_at hl 3 rfl) ?_
                      refine lv_iconst (v := 1) hx hb d_M_same_113 (by decide) ?_
                      refine lv_iadd hx hb d_M_same_114 ?_
                      rw [show nI p2 + 1 = nI (p2 + 1) from nI_add p2 1]
                      refine lv_iload hx hb d_M_same_115 (lv_at hl 5 rfl) ?_
                      refine pr_i (ru_S (As := [.long s1, .int p1, .int (nI (p2 + 1)), .int (nI j)]) (rest := []) ⟨hx, hb, hml, hown, ht⟩ hKN (c_M_hasFaults l G _ s1 p1 (p2 + 1) (nI j) (show (p2 + 1) ≤ 16 by omega)) kc_M_71 ⟨rfl, rfl⟩ ⟨Nat.le_of_ble_eq_true rfl, Nat.le_of_ble_eq_true rfl⟩ rfl hl.1 rfl (Nat.le_of_ble_eq_true rfl) d_M_same_117 ⟨Nat.le_of_ble_eq_true rfl, Nat.le_of_ble_eq_true rfl⟩) ?_
                      refine lv_aload_n hx hb d_M_same_120 rfl (lv_at hl 0 rfl) ?_
                      refine va_get (D := G.1) (ci := 3) (v := .long ns) (C := R_M) (T := F_M) (N := 10) hx hb ht in_M hown hK hP 0 rfl rfl 1 (by decide) (ht _ kf_M_20) (fun _ h9 => h9) rfl d_M_same_121 ?_
                      refine lv_iload_n hx hb d_M_same_124 rfl (lv_at hl 2 rfl) ?_
                      refine lv_iload hx hb d_M_same_125 (lv_at hl 3 rfl) ?_
                      refine lv_iconst (v := 1) hx hb d_M_same_127 (by decide) ?_
                      refine lv_iadd hx hb d_M_same_128 ?_
                      rw [show nI p2 + 1 = nI (p2 + 1) from nI_add p2 1]
                      refine lv_iload hx hb d_M_same_129 (lv_at hl 5 rfl) ?_
                      refine pr_i (ru_S (As := [.long ns, .int p1, .int (nI (p2 + 1)), .int (nI j)]) (rest := [.int (hf s1 p1 (p2 + 1) (nI j))]) ⟨hx, hb, hml, hown, ht⟩ hKN (c_M_hasFaults l G _ ns p1 (p2 + 1) (nI j) (show (p2 + 1) ≤ 16 by omega)) kc_M_71 ⟨rfl, rfl⟩ ⟨Nat.le_of_ble_eq_true rfl, Nat.le_of_ble_eq_true rfl⟩ rfl hl.1 rfl (Nat.le_of_ble_eq_true rfl) d_M_same_131 ⟨Nat.le_of_ble_eq_true rfl, Nat.le_of_ble_eq_true rfl⟩) ?_
                      refine lv_icmp_ne (tgt := 141) hx hb d_M_same_134 (by decide) (fun c9 => ?_) (fun c9 => ?_)
                      · refine lv_iconst (v := 0) hx hb d_M_same_141 (by decide) ?_
                        refine lv_istore (lv' := [(5, .int 0), (0, .ref a), (1, .long s1), (3, .int p1), (4, .int (nI p2)), (6, .int (nI j)), (7, .int (nI j2))]) hx hb d_M_same_142 hl (by decide) rfl (fun ls hl => ?_)
                        refine lv_iinc (v := nI (j + 1)) (lv' := [(6, .int (nI (j + 1))), (5, .int 0), (0, .ref a), (1, .long s1), (3, .int p1), (4, .int (nI p2)), (7, .int (nI j2))]) hx hb d_M_same_144 hl (k := 5) rfl (nI_1 j) (by decide) rfl (fun ls hl => ?_)
                        refine lv_goto (tgt := 35) hx hb d_M_same_147 (by decide) ?_
                        have hy : si s1 ns p1 j 4 1 x = x2 := hv2.symm
                        exact ih (j + 1) 0 ls (by omega) (by rw [← hv]; simp only [so]; rw [if_neg c5, hy, if_neg c8, if_neg c9]) (by exact lv_sub hl [2, 3, 4, 5, 1, 0] rfl)
                      · refine lv_iconst (v := 1) hx hb d_M_same_137 (by decide) ?_
                        refine lv_goto (tgt := 142) hx hb d_M_same_138 (by decide) ?_
                        refine lv_istore (lv' := [(5, .int 1), (0, .ref a), (1, .long s1), (3, .int p1), (4, .int (nI p2)), (6, .int (nI j)), (7, .int (nI j2))]) hx hb d_M_same_142 hl (by decide) rfl (fun ls hl => ?_)
                        refine lv_iinc (v := nI (j + 1)) (lv' := [(6, .int (nI (j + 1))), (5, .int 1), (0, .ref a), (1, .long s1), (3, .int p1), (4, .int (nI p2)), (7, .int (nI j2))]) hx hb d_M_same_144 hl (k := 5) rfl (nI_1 j) (by decide) rfl (fun ls hl => ?_)
                        refine lv_goto (tgt := 35) hx hb d_M_same_147 (by decide) ?_
                        have hy : si s1 ns p1 j 4 1 x = x2 := hv2.symm
                        exact ih (j + 1) 1 ls (by omega) (by rw [← hv]; simp only [so]; rw [if_neg c5, hy, if_neg c8, if_pos c9]) (by exact lv_sub hl [2, 3, 4, 5, 1, 0] rfl)
                  · exact absurd (show (5 : Int32) ≤ nI j2 from by rw [show j2 = 5 by omega]; decide) c7
                | succ kk2 ih2 =>
                  intro j2 x2 ls hj2 hv2 hl
                  refine lv_iload hx hb d_M_same_50 (lv_at hl 6 rfl) ?_
                  refine lv_iconst (v := 5) hx hb d_M_same_52 (by decide) ?_
                  refine lv_icmp_ge (tgt := 104) hx hb d_M_same_53 (by decide) (fun c10 => ?_) (fun c10 => ?_)
                  · exact absurd c10 (nI_ge (a := j2) (b := 5) (by omega) (by decide))
                  · refine lv_iload hx hb d_M_same_56 (lv_at hl 4 rfl) ?_
                    refine lv_if_eq (tgt := 95) hx hb d_M_same_58 (by decide) (fun c11 => ?_) (fun c11 => ?_)
                    · refine lv_iconst (v := 0) hx hb d_M_same_95 (by decide) ?_
                      refine lv_istore (lv' := [(5, .int 0), (0, .ref a), (1, .long s1), (3, .int p1), (4, .int (nI p2)), (6, .int (nI j)), (7, .int (nI j2))]) hx hb d_M_same_96 hl (by decide) rfl (fun ls hl => ?_)
                      refine lv_iinc (v := nI (j2 + 1)) (lv' := [(7, .int (nI (j2 + 1))), (5, .int 0), (0, .ref a), (1, .long s1), (3, .int p1), (4, .int (nI p2)), (6, .int (nI j))]) hx hb d_M_same_98 hl (k := 6) rfl (nI_1 j2) (by decide) rfl (fun ls hl => ?_)
                      refine lv_goto (tgt := 50) hx hb d_M_same_101 (by decide) ?_
                      exact ih2 (j2 + 1) 0 ls (by omega) (by rw [← hv2]; simp only [si]; rw [if_pos c11]) (by exact lv_sub hl [2, 3, 4, 5, 1, 6, 0] rfl)
                    · refine lv_lload_n hx hb d_M_same_61 rfl (lv_at hl 1 rfl) ?_
                      refine lv_iload_n hx hb d_M_same_62 rfl (lv_at hl 2 rfl) ?_
                      refine lv_iload hx hb d_M_same_63 (lv_at hl 5 rfl) ?_
                      refine pr_l (ru_S (As := [.long s1, .int p1, .int (nI j)]) (rest := []) ⟨hx, hb, hml, hown, ht⟩ hKN (c_M_number l G _ s1 p1 (nI j)) kc_M_44 ⟨rfl, rfl⟩ ⟨Nat.le_of_ble_eq_true rfl, Nat.le_of_ble_eq_true rfl⟩ rfl hl.1 rfl (Nat.le_of_ble_eq_true rfl) d_M_same_65 ⟨Nat.le_of_ble_eq_true rfl, Nat.le_of_ble_eq_true rfl⟩) ?_
                      refine lv_iload hx hb d_M_same_68 (lv_at hl 6 rfl) ?_
                      refine pr_i (ru_S (As := [.long (zN s1 p1 (nI j)), .int (nI j2)]) (rest := []) ⟨hx, hb, hml, hown, ht⟩ hKN (c_M_fact l G _ (zN s1 p1 (nI j)) (nI j2)) kc_M_75 ⟨rfl, rfl⟩ ⟨Nat.le_of_ble_eq_true rfl, Nat.le_of_ble_eq_true rfl⟩ rfl hl.1 rfl (Nat.le_of_ble_eq_true rfl) d_M_same_70 ⟨Nat.le_of_ble_eq_true rfl, Nat.le_of_ble_eq_true rfl⟩) ?_
                      refine lv_aload_n hx hb d_M_same_73 rfl (lv_at hl 0 rfl) ?_
                      refine va_get (D := G.1) (ci := 3) (v := .long ns) (C := R_M) (T := F_M) (N := 10) hx hb ht in_M hown hK hP 0 rfl rfl 1 (by decide) (ht _ kf_M_20) (fun _ h9 => h9) rfl d_M_same_74 ?_
                      refine lv_iload_n hx hb d_M_same_77 rfl (lv_at hl 2 rfl) ?_
                      refine lv_iload hx hb d_M_same_78 (lv_at hl 5 rfl) ?_
                      refine pr_l (ru_S (As := [.long ns, .int p1, .int (nI j)]) (rest := [.int (fn_M_fact (zN s1 p1 (nI j)) (nI j2))]) ⟨hx, hb, hml, hown, ht⟩ hKN (c_M_number l G _ ns p1 (nI j)) kc_M_44 ⟨rfl, rfl⟩ ⟨Nat.le_of_ble_eq_true rfl, Nat.le_of_ble_eq_true rfl⟩ rfl hl.1 rfl (Nat.le_of_ble_eq_true rfl) d_M_same_80 ⟨Nat.le_of_ble_eq_true rfl, Nat.le_of_ble_eq_true rfl⟩) ?_
                      refine lv_iload hx hb d_M_same_83 (lv_at hl 6 rfl) ?_
                      refine pr_i (ru_S (As := [.long (zN ns p1 (nI j)), .int (nI j2)]) (rest := [.int (fn_M_fact (zN s1 p1 (nI j)) (nI j2))]) ⟨hx, hb, hml, hown, ht⟩ hKN (c_M_fact l G _ (zN ns p1 (nI j)) (nI j2)) kc_M_75 ⟨rfl, rfl⟩ ⟨Nat.le_of_ble_eq_true rfl, Nat.le_of_ble_eq_true rfl⟩ rfl hl.1 rfl (Nat.le_of_ble_eq_true rfl) d_M_same_85 ⟨Nat.le_of_ble_eq_true rfl, Nat.le_of_ble_eq_true rfl⟩) ?_
                      refine lv_icmp_ne (tgt := 95) hx hb d_M_same_88 (by decide) (fun c12 => ?_) (fun c12 => ?_)
                      · refine lv_iconst (v := 0) hx hb d_M_same_95 (by decide) ?_
                        refine lv_istore (lv' := [(5, .int 0), (0, .ref a), (1, .long s1), (3, .int p1), (4, .int (nI p2)), (6, .int (nI j)), (7, .int (nI j2))]) hx hb d_M_same_96 hl (by decide) rfl (fun ls hl => ?_)
                        refine lv_iinc (v := nI (j2 + 1)) (lv' := [(7, .int (nI (j2 + 1))), (5, .int 0), (0, .ref a), (1, .long s1), (3, .int p1), (4, .int (nI p2)), (6, .int (nI j))]) hx hb d_M_same_98 hl (k := 6) rfl (nI_1 j2) (by decide) rfl (fun ls hl => ?_)
                        refine lv_goto (tgt := 50) hx hb d_M_same_101 (by decide) ?_
                        exact ih2 (j2 + 1) 0 ls (by omega) (by rw [← hv2]; simp only [si]; rw [if_neg c11, if_neg c12]) (by exact lv_sub hl [2, 3, 4, 5, 1, 6, 0] rfl)
                      · refine lv_iconst (v := 1) hx hb d_M_same_91 (by decide) ?_
                        refine lv_goto (tgt := 96) hx hb d_M_same_92 (by decide) ?_
                        refine lv_istore (lv' := [(5, .int 1), (0, .ref a), (1, .long s1), (3, .int p1), (4, .int (nI p2)), (6, .int (nI j)), (7, .int (nI j2))]) hx hb d_M_same_96 hl (by decide) rfl (fun ls hl => ?_)
                        refine lv_iinc (v := nI (j2 + 1)) (lv' := [(7, .int (nI (j2 + 1))), (5, .int 1), (0, .ref a), (1, .long s1), (3, .int p1), (4, .int (nI p2)), (6, .int (nI j))]) hx hb d_M_same_98 hl (k := 6) rfl (nI_1 j2) (by decide) rfl (fun ls hl => ?_)
                        refine lv_goto (tgt := 50) hx hb d_M_same_101 (by decide) ?_
                        exact ih2 (j2 + 1) 1 ls (by omega) (by rw [← hv2]; simp only [si]; rw [if_neg c11, if_pos c12]) (by exact lv_sub hl [2, 3, 4, 5, 1, 6, 0] rfl)
              exact loop2 4 1 x ls (by omega) rfl (by exact lv_sub hl [1, 2, 3, 4, 5, 6, 0] rfl)
      exact loop (p2 + 1) 0 1 ls (by omega) rfl (by exact lv_sub hl [2, 3, 4, 5, 1, 0] rfl)
